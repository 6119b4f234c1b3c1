def zTb (u : Nat) (B : Nat → Nat → Int) (T : Nat → Nat → Nat → Int) (D : Nat → Int) : Prop := zTab u B T D ∧ ∀ k, k ≤ u → D k = 0 → D u = 0
/-- what is gathered: sums of products over the weighings of S -/
def zGr (w mm : Nat) (d : Bool) (cd : Nat → Nat) (rd : Nat → Int) (n : Nat) (S : Nat → Bool) (p q : Nat) : Int := zS n (fun t => if S t then zLn w mm d (cd t) (rd t) t p * zLn w mm d (cd t) (rd t) t q else 0)
theorem zGr_all (w mm : Nat) (d : Bool) (cd : Nat → Nat) (rd : Nat → Int) (n : Nat) (p q : Nat) : zGr w mm d cd rd n (fun _ => true) p q = zS n (fun t => zLn w mm d (cd t) (rd t) t p * zLn w mm d (cd t) (rd t) t q) := zS_cong (fun k _ => by simp)
theorem zGr_sw {w mm : Nat} {d : Bool} {cd : Nat → Nat} {rd : Nat → Int} {n : Nat} {t : Nat} (ht : t < n) (p q : Nat) : zGr w mm d cd rd n (fun k => !decide (k = t)) p q = zGr w mm d cd rd n (fun _ => true) p q - zLn w mm d (cd t) (rd t) t p * zLn w mm d (cd t) (rd t) t q := by
  unfold zGr
  induction n with
  | zero => omega
  | succ n ih =>
    rw [zS, zS]
    by_cases e : t = n
    · subst e
      have : zS t (fun k => if (!decide (k = t)) = true then zLn w mm d (cd k) (rd k) k p * zLn w mm d (cd k) (rd k) k q else 0) = zS t (fun k => if true = true then zLn w mm d (cd k) (rd k) k p * zLn w mm d (cd k) (rd k) k q else 0) := zS_cong (fun k hk => by
        have : ¬ k = t := by omega
        simp [this])
      rw [this]
      simp
      try omega
    · rw [ih (by omega)]
      have : ¬ n = t := fun z => e z.symm
      simp [this]
      try omega
theorem zTb_0 {u : Nat} {B : Nat → Nat → Int} {T : Nat → Nat → Nat → Int} {D : Nat → Int} (h : zTb u B T D) {k : Nat} (h1 : k ≤ u) (h2 : D k = 0) : D u = 0 := h.2 k h1 h2
set_option maxHeartbeats 4000000 in
set_option maxRecDepth 100000 in
theorem k_X1_solves {E : zE} (hI : zI E) (M : zM) {a w n mm : Nat} {cd : Nat → Nat} {rd : Nat → Int} (ha : zRoom a) (hR : zRm M a w n mm cd rd) (d : Bool) {T : Nat → Nat → Nat → Int} {D : Nat → Int} (hT : zTb (zunk w d) (zGr w mm d cd rd n (fun _ => true)) T D) : zK E yX1_solves (.code yX1_solves cX1_solves 3 (some .boolean)) (zrm 4 97) [.ref (E.2.2.2 7), .ref (E.2.2.2 a), .int (zdr d)] M (zpi (fun v M2 => ((v = nI 1 ∧ 0 < D (zunk w d) ∧ M2.2 7 6 = Int64.ofInt (D (zunk w d)) ∧ (∀ i j, i ≤ j → j ≤ zunk w d → M2.2 (21 + 1 * i) j = Int64.ofInt (T (zunk w d) i j))) ∨ (v = nI 0 ∧ D (zunk w d) = 0)) ∧ M2.1 7 3 = zdr d ∧ M2.1 7 4 = nI w ∧ M2.1 7 5 = nI (zunk w d) ∧ zfr (fun c => c = 7 ∨ c = 10 ∨ 15 ≤ c ∧ c ≤ 26) M M2)) := by
  refine zK_of hI (by decide) (Nat.le_of_ble_eq_true rfl) (fun x hx ri rz rl rv => ?_)
  show zJ E x 0 [(0, .ref (E.2.2.2 7)), (1, .ref (E.2.2.2 a)), (2, .int (zdr d))] [] M
  have hu := zunk_le hR.2.1.2 d
  refine z_aload_n hx 0 dX1_solves_0 rfl rfl ?_
  refine z_aload_n hx 1 dX1_solves_1 rfl rfl ?_
  refine z_iload_n hx 2 dX1_solves_2 rfl rfl ?_
  refine z_callV hx (As := [.ref (E.2.2.2 a), .int (zdr d)]) (st := []) (k_X1_gather hI M ha hR d) zw_385 zy_X1_gather ⟨rfl, rfl⟩ (by decide) (zOB_X1 E) rfl rfl rfl rfl (Nat.le_of_ble_eq_true rfl) dX1_solves_3 ?_
  rintro _ M3 ⟨rfl, q3⟩
  show zJ E x 6 _ [] _
  refine z_aload_n hx 0 dX1_solves_6 rfl rfl ?_
  refine z_iconst hx (v := nI 1) dX1_solves_7 (by decide +kernel) ?_
  refine z_callV hx (As := [.int (nI 1)]) (st := []) (k_X1_sweepAll hI M3 (wh := true) hT.1 q3.2.2.1 hu (fun p q z1 z2 => by rw [q3.2.2.2.2 p q z1 z2, zGr_all])) zw_395 zy_X1_sweepAll ⟨rfl, rfl⟩ (by decide) (zOB_X1 E) rfl rfl rfl rfl (Nat.le_of_ble_eq_true rfl) dX1_solves_8 ?_
  rintro _ M8 ⟨v8, rfl, q8⟩
  obtain ⟨q8, q8b, q8c⟩ := q8
  rcases q8 with ⟨rfl, q8⟩ | ⟨rfl, k, k1, k2, k3, k4⟩
  · skip
    show zJ E x 11 _ [.int (nI 1)] _
    skip
    exact rz _ _ _ _ rfl (Or.inr rfl) ⟨_, rfl, ⟨Or.inl ⟨rfl, q8.1 _ (Nat.le_refl _), q8.2.1, q8.2.2.1 rfl⟩, by rw [q8b]; exact q3.1, by rw [q8b]; exact q3.2.1, by rw [q8b]; exact q3.2.2.1, zfr_tr (zfr_w q3.2.2.2.1 (fun c h => by omega)) (zfr_w q8c (fun c h => by omega))⟩⟩ dX1_solves_11
  · skip
    show zJ E x 11 _ [.int (nI 0)] _
    have hz := zTb_0 hT k2 k4
    exact rz _ _ _ _ rfl (Or.inl rfl) ⟨_, rfl, ⟨Or.inr ⟨rfl, hz⟩, by rw [q8b]; exact q3.1, by rw [q8b]; exact q3.2.1, by rw [q8b]; exact q3.2.2.1, zfr_tr (zfr_w q3.2.2.2.1 (fun c h => by omega)) (zfr_w q8c (fun c h => by omega))⟩⟩ dX1_solves_11
theorem zpm_m (b x y : Int) : Int64.ofInt b + (-1 : Int32).toInt64 * Int64.ofInt x * Int64.ofInt y = Int64.ofInt (b - x * y) := by
  rw [show (-1 : Int32).toInt64 = Int64.ofInt (-1) by decide +kernel, zI64_mul, zI64_mul, zI64_add]
  congr 1
  rw [Int.neg_one_mul, Int.neg_mul]
  rfl
theorem zpm_p (b x y : Int) : Int64.ofInt b + (nI 1).toInt64 * Int64.ofInt x * Int64.ofInt y = Int64.ofInt (b + x * y) := by
  rw [show (nI 1).toInt64 = 1 by decide +kernel, Int64.one_mul, zI64_mul, zI64_add]
theorem zpm_back (b : Int64) (x y : Int) : b + (-1 : Int32).toInt64 * Int64.ofInt x * Int64.ofInt y + (nI 1).toInt64 * Int64.ofInt x * Int64.ofInt y = b := by
  rw [show (nI 1).toInt64 = 1 by decide +kernel, show (-1 : Int32).toInt64 = Int64.ofInt (-1) by decide +kernel, Int64.one_mul, ← Int64.ofInt_toInt b, zI64_mul, zI64_mul, zI64_mul, zI64_add, zI64_add]
  congr 1
  rw [Int.neg_one_mul, Int.neg_mul]
  omega
theorem zpm_back2 (b : Int64) (x y : Int) : b + (nI 1).toInt64 * Int64.ofInt x * Int64.ofInt y + (-1 : Int32).toInt64 * Int64.ofInt x * Int64.ofInt y = b := by
  rw [show (nI 1).toInt64 = 1 by decide +kernel, show (-1 : Int32).toInt64 = Int64.ofInt (-1) by decide +kernel, Int64.one_mul, ← Int64.ofInt_toInt b, zI64_mul, zI64_mul, zI64_mul, zI64_add, zI64_add]
  congr 1
  rw [Int.neg_one_mul, Int.neg_mul]
  omega
set_option maxHeartbeats 4000000 in
set_option maxRecDepth 100000 in
theorem k_X1_solvesWithout {E : zE} (hI : zI E) (M : zM) {a w n mm t : Nat} {cd : Nat → Nat} {rd : Nat → Int} {B : Nat → Nat → Int} (ha : zRoom a) (hR : zRm M a w n mm cd rd) (ht : t < n) (d : Bool) (h73 : M.1 7 3 = zdr d) (h75 : M.1 7 5 = nI (zunk w d)) (hB : ∀ p q, p ≤ q → q ≤ zunk w d → M.2 (15 + 1 * p) q = Int64.ofInt (B p q)) {T : Nat → Nat → Nat → Int} {D : Nat → Int} (hT : zTb (zunk w d) (fun p q => B p q - zLn w mm d (cd t) (rd t) t p * zLn w mm d (cd t) (rd t) t q) T D) : zK E yX1_solvesWithout (.code yX1_solvesWithout cX1_solvesWithout 4 (some .boolean)) (zrm 3 76) [.ref (E.2.2.2 7), .ref (E.2.2.2 a), .int (nI t)] M (zpi (fun v M2 => ((v = nI 1 ∧ 0 < D (zunk w d) ∧ M2.2 7 6 = Int64.ofInt (D (zunk w d)) ∧ M2.2 (21 + 1 * zunk w d) (zunk w d) = Int64.ofInt (T (zunk w d) (zunk w d) (zunk w d))) ∨ (v = nI 0 ∧ D (zunk w d) = 0)) ∧ M2.1 7 = M.1 7 ∧ zfr (fun c => c = 7 ∨ c = 10 ∨ 15 ≤ c ∧ c ≤ 26) M M2 ∧ ∀ p q, p ≤ q → q ≤ zunk w d → M2.2 (15 + 1 * p) q = M.2 (15 + 1 * p) q)) := by
  refine zK_of hI (by decide) (Nat.le_of_ble_eq_true rfl) (fun x hx ri rz rl rv => ?_)
  show zJ E x 0 [(0, .ref (E.2.2.2 7)), (1, .ref (E.2.2.2 a)), (2, .int (nI t))] [] M
  have hu := zunk_le hR.2.1.2 d
  have hge := zRoom_ge ha
  refine z_aload_n hx 0 dX1_solvesWithout_0 rfl rfl ?_
  refine z_aload_n hx 1 dX1_solvesWithout_1 rfl rfl ?_
  refine z_iload_n hx 2 dX1_solvesWithout_2 rfl rfl ?_
  refine z_iconst hx (v := (-1)) dX1_solvesWithout_3 rfl ?_
  refine z_callV hx (As := [.ref (E.2.2.2 a), .int (nI t), .int (-1)]) (st := []) (k_X1_putR hI M ha hR ht d h73 h75 (-1)) zw_390 zy_X1_put ⟨rfl, rfl⟩ (by decide) (zOB_X1 E) rfl rfl rfl rfl (Nat.le_of_ble_eq_true rfl) dX1_solvesWithout_4 ?_
  rintro _ M4 ⟨rfl, q4⟩
  show zJ E x 7 _ [] _
  refine z_aload_n hx 0 dX1_solvesWithout_7 rfl rfl ?_
  refine z_iconst hx (v := nI 0) dX1_solvesWithout_8 (by decide +kernel) ?_
  refine z_callV hx (As := [.int (nI 0)]) (st := []) (k_X1_sweepAll hI M4 (wh := false) hT.1 (by rw [(q4.2 7 (by omega)).1]; exact h75) hu (fun p q z1 z2 => by rw [q4.1 p q z1 z2, hB p q z1 z2]; exact zpm_m _ _ _)) zw_395 zy_X1_sweepAll ⟨rfl, rfl⟩ (by decide) (zOB_X1 E) rfl rfl rfl rfl (Nat.le_of_ble_eq_true rfl) dX1_solvesWithout_9 ?_
  rintro _ M9 ⟨v9, rfl, q9⟩
  obtain ⟨q9, q9b, q9c⟩ := q9
  rcases q9 with ⟨rfl, q9⟩ | ⟨rfl, k, k1, k2, k3, k4⟩
  · skip
    show zJ E x 12 _ [.int (nI 1)] _
    skip
    refine z_istore_n hx (lv2 := [(3, .int (nI 1)), (0, .ref (E.2.2.2 7)), (1, .ref (E.2.2.2 a)), (2, .int (nI t))]) dX1_solvesWithout_12 rfl (by decide) rfl ?_
    refine z_aload_n hx 1 dX1_solvesWithout_13 rfl rfl ?_
    refine z_aload_n hx 2 dX1_solvesWithout_14 rfl rfl ?_
    refine z_iload_n hx 3 dX1_solvesWithout_15 rfl rfl ?_
    refine z_iconst hx (v := nI 1) dX1_solvesWithout_16 (by decide +kernel) ?_
    refine z_callV hx (As := [.ref (E.2.2.2 a), .int (nI t), .int (nI 1)]) (st := []) (k_X1_putR hI M9 ha (zRm_fr (zRm_fr hR q4.2 (by omega) (by omega) (by omega)) q9c (by omega) (by omega) (by omega)) ht d (by rw [q9b, (q4.2 7 (by omega)).1]; exact h73) (by rw [q9b, (q4.2 7 (by omega)).1]; exact h75) (nI 1)) zw_390 zy_X1_put ⟨rfl, rfl⟩ (by decide) (zOB_X1 E) rfl rfl rfl rfl (Nat.le_of_ble_eq_true rfl) dX1_solvesWithout_17 ?_
    rintro _ M17 ⟨rfl, q17⟩
    show zJ E x 20 _ [] _
    refine z_iload_n hx 0 dX1_solvesWithout_20 rfl rfl ?_
    exact rz _ _ _ _ rfl (Or.inr rfl) ⟨_, rfl, ⟨Or.inl ⟨rfl, q9.1 _ (Nat.le_refl _), by rw [(q17.2 7 (by omega)).2]; exact q9.2.1, (by rw [(q17.2 _ (by omega)).2]; exact q9.2.2.2)⟩, (q17.2 7 (by omega)).1.trans (q9b.trans (q4.2 7 (by omega)).1), zfr_tr (zfr_w q4.2 (fun c h => by omega)) (zfr_tr (zfr_w q9c (fun c h => by omega)) (zfr_w q17.2 (fun c h => by omega))), fun p q z1 z2 => by
        rw [q17.1 p q z1 z2, (q9c _ (by omega)).2, q4.1 p q z1 z2]
        exact zpm_back _ _ _⟩⟩ dX1_solvesWithout_21
  · skip
    show zJ E x 12 _ [.int (nI 0)] _
    have hz := zTb_0 hT k2 k4
    refine z_istore_n hx (lv2 := [(3, .int (nI 0)), (0, .ref (E.2.2.2 7)), (1, .ref (E.2.2.2 a)), (2, .int (nI t))]) dX1_solvesWithout_12 rfl (by decide) rfl ?_
    refine z_aload_n hx 1 dX1_solvesWithout_13 rfl rfl ?_
    refine z_aload_n hx 2 dX1_solvesWithout_14 rfl rfl ?_
    refine z_iload_n hx 3 dX1_solvesWithout_15 rfl rfl ?_
    refine z_iconst hx (v := nI 1) dX1_solvesWithout_16 (by decide +kernel) ?_
    refine z_callV hx (As := [.ref (E.2.2.2 a), .int (nI t), .int (nI 1)]) (st := []) (k_X1_putR hI M9 ha (zRm_fr (zRm_fr hR q4.2 (by omega) (by omega) (by omega)) q9c (by omega) (by omega) (by omega)) ht d (by rw [q9b, (q4.2 7 (by omega)).1]; exact h73) (by rw [q9b, (q4.2 7 (by omega)).1]; exact h75) (nI 1)) zw_390 zy_X1_put ⟨rfl, rfl⟩ (by decide) (zOB_X1 E) rfl rfl rfl rfl (Nat.le_of_ble_eq_true rfl) dX1_solvesWithout_17 ?_
    rintro _ M17 ⟨rfl, q17⟩
    show zJ E x 20 _ [] _
    refine z_iload_n hx 0 dX1_solvesWithout_20 rfl rfl ?_
    exact rz _ _ _ _ rfl (Or.inl rfl) ⟨_, rfl, ⟨Or.inr ⟨rfl, hz⟩, (q17.2 7 (by omega)).1.trans (q9b.trans (q4.2 7 (by omega)).1), zfr_tr (zfr_w q4.2 (fun c h => by omega)) (zfr_tr (zfr_w q9c (fun c h => by omega)) (zfr_w q17.2 (fun c h => by omega))), fun p q z1 z2 => by
        rw [q17.1 p q z1 z2, (q9c _ (by omega)).2, q4.1 p q z1 z2]
        exact zpm_back _ _ _⟩⟩ dX1_solvesWithout_21
set_option maxHeartbeats 4000000 in
set_option maxRecDepth 100000 in
theorem k_X1_solvesWith {E : zE} (hI : zI E) (M : zM) {a w n mm t : Nat} {cd : Nat → Nat} {rd : Nat → Int} {B : Nat → Nat → Int} (ha : zRoom a) (hR : zRm M a w n mm cd rd) (ht : t < n) (d : Bool) (h73 : M.1 7 3 = zdr d) (h75 : M.1 7 5 = nI (zunk w d)) (hB : ∀ p q, p ≤ q → q ≤ zunk w d → M.2 (15 + 1 * p) q = Int64.ofInt (B p q)) {T : Nat → Nat → Nat → Int} {D : Nat → Int} (hT : zTb (zunk w d) (fun p q => B p q + zLn w mm d (cd t) (rd t) t p * zLn w mm d (cd t) (rd t) t q) T D) : zK E yX1_solvesWith (.code yX1_solvesWith cX1_solvesWith 4 (some .boolean)) (zrm 3 76) [.ref (E.2.2.2 7), .ref (E.2.2.2 a), .int (nI t)] M (zpi (fun v M2 => ((v = nI 1 ∧ 0 < D (zunk w d) ∧ M2.2 7 6 = Int64.ofInt (D (zunk w d)) ∧ (∀ i j, i ≤ j → j ≤ zunk w d → M2.2 (21 + 1 * i) j = Int64.ofInt (T (zunk w d) i j))) ∨ (v = nI 0 ∧ D (zunk w d) = 0)) ∧ M2.1 7 = M.1 7 ∧ zfr (fun c => c = 7 ∨ c = 10 ∨ 15 ≤ c ∧ c ≤ 26) M M2 ∧ ∀ p q, p ≤ q → q ≤ zunk w d → M2.2 (15 + 1 * p) q = M.2 (15 + 1 * p) q)) := by
  refine zK_of hI (by decide) (Nat.le_of_ble_eq_true rfl) (fun x hx ri rz rl rv => ?_)
  show zJ E x 0 [(0, .ref (E.2.2.2 7)), (1, .ref (E.2.2.2 a)), (2, .int (nI t))] [] M
  have hu := zunk_le hR.2.1.2 d
  have hge := zRoom_ge ha
  refine z_aload_n hx 0 dX1_solvesWith_0 rfl rfl ?_
  refine z_aload_n hx 1 dX1_solvesWith_1 rfl rfl ?_
  refine z_iload_n hx 2 dX1_solvesWith_2 rfl rfl ?_
  refine z_iconst hx (v := nI 1) dX1_solvesWith_3 (by decide +kernel) ?_
  refine z_callV hx (As := [.ref (E.2.2.2 a), .int (nI t), .int (nI 1)]) (st := []) (k_X1_putR hI M ha hR ht d h73 h75 (nI 1)) zw_390 zy_X1_put ⟨rfl, rfl⟩ (by decide) (zOB_X1 E) rfl rfl rfl rfl (Nat.le_of_ble_eq_true rfl) dX1_solvesWith_4 ?_
  rintro _ M4 ⟨rfl, q4⟩
  show zJ E x 7 _ [] _
  refine z_aload_n hx 0 dX1_solvesWith_7 rfl rfl ?_
  refine z_iconst hx (v := nI 1) dX1_solvesWith_8 (by decide +kernel) ?_
  refine z_callV hx (As := [.int (nI 1)]) (st := []) (k_X1_sweepAll hI M4 (wh := true) hT.1 (by rw [(q4.2 7 (by omega)).1]; exact h75) hu (fun p q z1 z2 => by rw [q4.1 p q z1 z2, hB p q z1 z2]; exact zpm_p _ _ _)) zw_395 zy_X1_sweepAll ⟨rfl, rfl⟩ (by decide) (zOB_X1 E) rfl rfl rfl rfl (Nat.le_of_ble_eq_true rfl) dX1_solvesWith_9 ?_
  rintro _ M9 ⟨v9, rfl, q9⟩
  obtain ⟨q9, q9b, q9c⟩ := q9
  rcases q9 with ⟨rfl, q9⟩ | ⟨rfl, k, k1, k2, k3, k4⟩
  · skip
    show zJ E x 12 _ [.int (nI 1)] _
    skip
    refine z_istore_n hx (lv2 := [(3, .int (nI 1)), (0, .ref (E.2.2.2 7)), (1, .ref (E.2.2.2 a)), (2, .int (nI t))]) dX1_solvesWith_12 rfl (by decide) rfl ?_
    refine z_aload_n hx 1 dX1_solvesWith_13 rfl rfl ?_
    refine z_aload_n hx 2 dX1_solvesWith_14 rfl rfl ?_
    refine z_iload_n hx 3 dX1_solvesWith_15 rfl rfl ?_
    refine z_iconst hx (v := (-1)) dX1_solvesWith_16 rfl ?_
    refine z_callV hx (As := [.ref (E.2.2.2 a), .int (nI t), .int (-1)]) (st := []) (k_X1_putR hI M9 ha (zRm_fr (zRm_fr hR q4.2 (by omega) (by omega) (by omega)) q9c (by omega) (by omega) (by omega)) ht d (by rw [q9b, (q4.2 7 (by omega)).1]; exact h73) (by rw [q9b, (q4.2 7 (by omega)).1]; exact h75) (-1)) zw_390 zy_X1_put ⟨rfl, rfl⟩ (by decide) (zOB_X1 E) rfl rfl rfl rfl (Nat.le_of_ble_eq_true rfl) dX1_solvesWith_17 ?_
    rintro _ M17 ⟨rfl, q17⟩
    show zJ E x 20 _ [] _
    refine z_iload_n hx 0 dX1_solvesWith_20 rfl rfl ?_
    exact rz _ _ _ _ rfl (Or.inr rfl) ⟨_, rfl, ⟨Or.inl ⟨rfl, q9.1 _ (Nat.le_refl _), by rw [(q17.2 7 (by omega)).2]; exact q9.2.1, (fun i j z1 z2 => by rw [(q17.2 _ (by omega)).2]; exact q9.2.2.1 rfl i j z1 z2)⟩, (q17.2 7 (by omega)).1.trans (q9b.trans (q4.2 7 (by omega)).1), zfr_tr (zfr_w q4.2 (fun c h => by omega)) (zfr_tr (zfr_w q9c (fun c h => by omega)) (zfr_w q17.2 (fun c h => by omega))), fun p q z1 z2 => by
        rw [q17.1 p q z1 z2, (q9c _ (by omega)).2, q4.1 p q z1 z2]
        exact zpm_back2 _ _ _⟩⟩ dX1_solvesWith_21
  · skip
    show zJ E x 12 _ [.int (nI 0)] _
    have hz := zTb_0 hT k2 k4
    refine z_istore_n hx (lv2 := [(3, .int (nI 0)), (0, .ref (E.2.2.2 7)), (1, .ref (E.2.2.2 a)), (2, .int (nI t))]) dX1_solvesWith_12 rfl (by decide) rfl ?_
    refine z_aload_n hx 1 dX1_solvesWith_13 rfl rfl ?_
    refine z_aload_n hx 2 dX1_solvesWith_14 rfl rfl ?_
    refine z_iload_n hx 3 dX1_solvesWith_15 rfl rfl ?_
    refine z_iconst hx (v := (-1)) dX1_solvesWith_16 rfl ?_
    refine z_callV hx (As := [.ref (E.2.2.2 a), .int (nI t), .int (-1)]) (st := []) (k_X1_putR hI M9 ha (zRm_fr (zRm_fr hR q4.2 (by omega) (by omega) (by omega)) q9c (by omega) (by omega) (by omega)) ht d (by rw [q9b, (q4.2 7 (by omega)).1]; exact h73) (by rw [q9b, (q4.2 7 (by omega)).1]; exact h75) (-1)) zw_390 zy_X1_put ⟨rfl, rfl⟩ (by decide) (zOB_X1 E) rfl rfl rfl rfl (Nat.le_of_ble_eq_true rfl) dX1_solvesWith_17 ?_
    rintro _ M17 ⟨rfl, q17⟩
    show zJ E x 20 _ [] _
    refine z_iload_n hx 0 dX1_solvesWith_20 rfl rfl ?_
    exact rz _ _ _ _ rfl (Or.inl rfl) ⟨_, rfl, ⟨Or.inr ⟨rfl, hz⟩, (q17.2 7 (by omega)).1.trans (q9b.trans (q4.2 7 (by omega)).1), zfr_tr (zfr_w q4.2 (fun c h => by omega)) (zfr_tr (zfr_w q9c (fun c h => by omega)) (zfr_w q17.2 (fun c h => by omega))), fun p q z1 z2 => by
        rw [q17.1 p q z1 z2, (q9c _ (by omega)).2, q4.1 p q z1 z2]
        exact zpm_back2 _ _ _⟩⟩ dX1_solvesWith_21
set_option maxHeartbeats 4000000 in
set_option maxRecDepth 100000 in
theorem k_X1_valueAbove {E : zE} (hI : zI E) (M : zM) {u i : Nat} {T : Nat → Nat → Int} (h5 : M.1 7 5 = nI u) (hu : u ≤ 5) (hi : i ≤ u) (hT : ∀ i j, i ≤ j → j ≤ u → M.2 (21 + 1 * i) j = Int64.ofInt (T i j)) : zK E yX1_valueAbove (.code yX1_valueAbove cX1_valueAbove 2 (some .long)) (zrm 0 0) [.ref (E.2.2.2 7), .int (nI i)] M (zpl (fun v M2 => v = Int64.ofInt (T i u) ∧ M2 = M)) := by
  refine zK_of hI (by decide) (Nat.le_of_ble_eq_true rfl) (fun x hx ri rz rl rv => ?_)
  show zJ E x 0 [(0, .ref (E.2.2.2 7)), (1, .int (nI i))] [] M
  refine z_aload_n hx 0 dX1_valueAbove_0 rfl rfl ?_
  refine zg_X1_1 hx zw_132 dX1_valueAbove_1 ?_
  refine z_iload_n hx 1 dX1_valueAbove_4 rfl rfl ?_
  refine z_aald_n hx (zRA_9 E) (by omega) dX1_valueAbove_5 ?_
  refine z_aload_n hx 0 dX1_valueAbove_6 rfl rfl ?_
  refine zg_X1_5 hx zw_136 dX1_valueAbove_7 ?_
  refine z_eqi h5 ?_
  refine z_lald_n hx (zJA_row (by omega) (by omega) E) (by omega) dX1_valueAbove_10 ?_
  exact rl _ _ _ _ rfl ⟨_, rfl, ⟨hT i u hi (Nat.le_refl _), rfl⟩⟩ dX1_valueAbove_11
set_option maxHeartbeats 4000000 in
set_option maxRecDepth 100000 in
theorem k_X1_spreadAbove {E : zE} (hI : zI E) (M : zM) {u i : Nat} {T : Nat → Nat → Int} (hu : u ≤ 5) (hi : i ≤ u) (hT : ∀ i j, i ≤ j → j ≤ u → M.2 (21 + 1 * i) j = Int64.ofInt (T i j)) : zK E yX1_spreadAbove (.code yX1_spreadAbove cX1_spreadAbove 2 (some .long)) (zrm 0 0) [.ref (E.2.2.2 7), .int (nI i)] M (zpl (fun v M2 => v = Int64.ofInt (-T i i) ∧ M2 = M)) := by
  refine zK_of hI (by decide) (Nat.le_of_ble_eq_true rfl) (fun x hx ri rz rl rv => ?_)
  show zJ E x 0 [(0, .ref (E.2.2.2 7)), (1, .int (nI i))] [] M
  refine z_aload_n hx 0 dX1_spreadAbove_0 rfl rfl ?_
  refine zg_X1_1 hx zw_132 dX1_spreadAbove_1 ?_
  refine z_iload_n hx 1 dX1_spreadAbove_4 rfl rfl ?_
  refine z_aald_n hx (zRA_9 E) (by omega) dX1_spreadAbove_5 ?_
  refine z_iload_n hx 1 dX1_spreadAbove_6 rfl rfl ?_
  refine z_lald_n hx (zJA_row (by omega) (by omega) E) (by omega) dX1_spreadAbove_7 ?_
  refine z_lneg hx dX1_spreadAbove_8 ?_
  exact rl _ _ _ _ rfl ⟨_, rfl, ⟨by rw [hT i i (Nat.le_refl _) hi, zI64_neg], rfl⟩⟩ dX1_spreadAbove_9
set_option maxHeartbeats 4000000 in
set_option maxRecDepth 100000 in
theorem k_X1_squaresAbove {E : zE} (hI : zI E) (M : zM) {u : Nat} {z : Int} (h5 : M.1 7 5 = nI u) (hu : u ≤ 5) (hT : M.2 (21 + 1 * u) u = Int64.ofInt z) : zK E yX1_squaresAbove (.code yX1_squaresAbove cX1_squaresAbove 1 (some .long)) (zrm 0 0) [.ref (E.2.2.2 7)] M (zpl (fun v M2 => v = Int64.ofInt z ∧ M2 = M)) := by
  refine zK_of hI (by decide) (Nat.le_of_ble_eq_true rfl) (fun x hx ri rz rl rv => ?_)
  show zJ E x 0 [(0, .ref (E.2.2.2 7))] [] M
  refine z_aload_n hx 0 dX1_squaresAbove_0 rfl rfl ?_
  refine zg_X1_1 hx zw_132 dX1_squaresAbove_1 ?_
  refine z_aload_n hx 0 dX1_squaresAbove_4 rfl rfl ?_
  refine zg_X1_5 hx zw_136 dX1_squaresAbove_5 ?_
  refine z_eqi h5 ?_
  refine z_aald_n hx (zRA_9 E) (by omega) dX1_squaresAbove_8 ?_
  refine z_aload_n hx 0 dX1_squaresAbove_9 rfl rfl ?_
  refine zg_X1_5 hx zw_136 dX1_squaresAbove_10 ?_
  refine z_eqi h5 ?_
  refine z_lald_n hx (zJA_row (by omega) (by omega) E) (by omega) dX1_squaresAbove_13 ?_
  exact rl _ _ _ _ rfl ⟨_, rfl, ⟨hT, rfl⟩⟩ dX1_squaresAbove_14
set_option maxHeartbeats 4000000 in
set_option maxRecDepth 100000 in
theorem k_X1_totalAbove {E : zE} (hI : zI E) (M : zM) {u w : Nat} {T : Nat → Nat → Int} (h4 : M.1 7 4 = nI w) (hu : u ≤ 5) (hw : w ≤ u) (hT : ∀ i j, i ≤ j → j ≤ u → M.2 (21 + 1 * i) j = Int64.ofInt (T i j)) : zK E yX1_totalAbove (.code yX1_totalAbove cX1_totalAbove 4 (some .long)) (zrm 1 21) [.ref (E.2.2.2 7)] M (zpl (fun v M2 => v = Int64.ofInt (zS w (fun k => -T k k)) ∧ M2 = M)) := by
  refine zK_of hI (by decide) (Nat.le_of_ble_eq_true rfl) (fun x hx ri rz rl rv => ?_)
  show zJ E x 0 [(0, .ref (E.2.2.2 7))] [] M
  refine z_lconst hx (v := 0) dX1_totalAbove_0 rfl ?_
  refine z_lstore_n hx (lv2 := [(1, .long 0), (0, .ref (E.2.2.2 7))]) dX1_totalAbove_1 rfl (by decide) rfl ?_
  refine z_iconst hx (v := nI 0) dX1_totalAbove_2 (by decide +kernel) ?_
  refine z_istore_n hx (lv2 := [(3, .int (nI 0)), (1, .long 0), (0, .ref (E.2.2.2 7))]) dX1_totalAbove_3 rfl (by decide) rfl ?_
  have loop4 : ∀ (fuel4 : Nat) (i : Nat) (_ : i ≤ w), w - i < fuel4 → zJ E x 4 [(3, .int (nI i)), (1, .long (Int64.ofInt (zS i (fun k => -T k k)))), (0, .ref (E.2.2.2 7))] [] M := by
    intro fuel4
    induction fuel4 with
    | zero =>
      intros; omega
    | succ fuel4 ih4 =>
      intro i hi hfuel4
      refine z_iload_n hx 0 dX1_totalAbove_4 rfl rfl ?_
      refine z_aload_n hx 2 dX1_totalAbove_5 rfl rfl ?_
      refine zg_X1_4 hx zw_135 dX1_totalAbove_6 ?_
      refine z_eqi h4 ?_
      refine z_icmp_ge_n (tgt := 26) hx (by omega) (by omega) dX1_totalAbove_9 (by decide) (fun h9 => ?_) (fun h9 => ?_)
      · skip
        refine z_lload_n hx 1 dX1_totalAbove_26 rfl rfl ?_
        exact rl _ _ _ _ rfl ⟨_, rfl, ⟨by rw [show i = w by omega], rfl⟩⟩ dX1_totalAbove_27
      · skip
        refine z_lload_n hx 1 dX1_totalAbove_12 rfl rfl ?_
        refine z_aload_n hx 2 dX1_totalAbove_13 rfl rfl ?_
        refine z_iload_n hx 0 dX1_totalAbove_14 rfl rfl ?_
        refine z_callV hx (As := [.int (nI i)]) (st := [.long (Int64.ofInt (zS i (fun k => -T k k)))]) (k_X1_spreadAbove hI M (i := i) hu (by omega) hT) zw_438 zy_X1_spreadAbove ⟨rfl, rfl⟩ (by decide) (zOB_X1 E) rfl rfl rfl rfl (Nat.le_of_ble_eq_true rfl) dX1_totalAbove_15 ?_
        rintro _ M15 ⟨v15, rfl, q15⟩
        obtain ⟨rfl, rfl⟩ := q15
        show zJ E x 18 _ [.long (Int64.ofInt (-T i i)), .long (Int64.ofInt (zS i (fun k => -T k k)))] _
        refine z_ladd hx dX1_totalAbove_18 ?_
        refine z_lstore_n hx (lv2 := [(1, .long ((Int64.ofInt (zS i (fun k => -T k k))) + (Int64.ofInt (-T i i)))), (3, .int (nI i)), (0, .ref (E.2.2.2 7))]) dX1_totalAbove_19 rfl (by decide) rfl ?_
        refine z_iinc hx (w := nI (i + 1)) (lv2 := [(3, .int (nI (i + 1))), (1, .long ((Int64.ofInt (zS i (fun k => -T k k))) + (Int64.ofInt (-T i i)))), (0, .ref (E.2.2.2 7))]) 1 dX1_totalAbove_20 rfl (z_inc _) (by decide) rfl ?_
        refine z_goto (tgt := 4) hx dX1_totalAbove_23 (by decide) ?_
        exact z_to (ih4 (i + 1) (by omega) (by omega)) [0, 1, 2] (by rw [zI64_add]; rfl) rfl
  exact z_to (loop4 _ 0 (by omega) (Nat.lt_succ_self _)) [0, 1, 2] rfl rfl
set_option maxHeartbeats 4000000 in
set_option maxRecDepth 100000 in
theorem k_X1_restAbove {E : zE} (hI : zI E) (M : zM) {a w n mm t : Nat} {cd : Nat → Nat} {rd : Nat → Int} {T : Nat → Nat → Int} {D : Int} (ha : zRoom a) (hR : zRm M a w n mm cd rd) (ht : t < n) (d : Bool) (h3 : M.1 7 3 = zdr d) (h5 : M.1 7 5 = nI (zunk w d)) (h6 : M.2 7 6 = Int64.ofInt D) (hT : ∀ i j, i ≤ j → j ≤ zunk w d → M.2 (21 + 1 * i) j = Int64.ofInt (T i j)) : zK E yX1_restAbove (.code yX1_restAbove cX1_restAbove 6 (some .long)) (zrm 2 46) [.ref (E.2.2.2 7), .ref (E.2.2.2 a), .int (nI t)] M (zpl (fun v M2 => v = Int64.ofInt (zLn w mm d (cd t) (rd t) t (zunk w d) * D - zS (zunk w d) (fun k => zLn w mm d (cd t) (rd t) t k * T k (zunk w d))) ∧ zfr (fun c => c = 10) M M2)) := by
  refine zK_of hI (by decide) (Nat.le_of_ble_eq_true rfl) (fun x hx ri rz rl rv => ?_)
  show zJ E x 0 [(0, .ref (E.2.2.2 7)), (1, .ref (E.2.2.2 a)), (2, .int (nI t))] [] M
  have hu := zunk_le hR.2.1.2 d
  have hge := zRoom_ge ha
  refine z_aload_n hx 1 dX1_restAbove_0 rfl rfl ?_
  refine z_iload_n hx 2 dX1_restAbove_1 rfl rfl ?_
  refine z_aload_n hx 0 dX1_restAbove_2 rfl rfl ?_
  refine zg_X1_3 hx zw_134 dX1_restAbove_3 ?_
  refine z_eqi h3 ?_
  refine z_aload_n hx 0 dX1_restAbove_6 rfl rfl ?_
  refine zg_X1_2 hx zw_133 dX1_restAbove_7 ?_
  refine z_callV hx (As := [.int (nI t), .int (zdr d), .ref (E.2.2.2 10)]) (st := []) (k_X3_layOut hI M ha (zJA_10 E) (by decide) hR.1 hR.2.1.1 hR.2.1.2 hR.2.2.1 (by have := hR.2.2.2.2.2.1; omega) (hR.2.2.2.2.2.2 t ht).1 (hR.2.2.2.2.2.2 t ht).2.1 (hR.2.2.2.2.2.2 t ht).2.2.2.1 (hR.2.2.2.2.2.2 t ht).2.2.2.2.1 (hR.2.2.2.2.2.2 t ht).2.2.2.2.2 hR.2.2.2.1 (hR.2.2.2.2.2.2 t ht).2.2.1 d) zw_394 zy_X3_layOut ⟨rfl, rfl⟩ (by decide) (zOB_room ha E) rfl rfl rfl rfl (Nat.le_of_ble_eq_true rfl) dX1_restAbove_10 ?_
  rintro _ M10 ⟨rfl, q10⟩
  subst q10
  show zJ E x 13 _ [] _
  refine z_aload_n hx 0 dX1_restAbove_13 rfl rfl ?_
  refine zg_X1_2 hx zw_133 dX1_restAbove_14 ?_
  refine z_aload_n hx 0 dX1_restAbove_17 rfl rfl ?_
  refine zg_X1_5 hx zw_136 dX1_restAbove_18 ?_
  refine z_eqi (zskSJI h5) ?_
  refine z_lald_n hx (zJA_10 E) (by omega) dX1_restAbove_21 ?_
  refine z_eql zhtSJ ?_
  refine z_eql (if_pos (by omega)) ?_
  refine z_aload_n hx 0 dX1_restAbove_22 rfl rfl ?_
  refine zg_X1_6 hx zw_137 dX1_restAbove_23 ?_
  refine z_eql (zskSJ (by omega) h6) ?_
  refine z_lmul hx dX1_restAbove_26 ?_
  refine z_lstore_n hx (lv2 := [(3, .long ((Int64.ofInt (zLn w mm d (cd t) (rd t) t (zunk w d))) * (Int64.ofInt D))), (0, .ref (E.2.2.2 7)), (1, .ref (E.2.2.2 a)), (2, .int (nI t))]) dX1_restAbove_27 rfl (by decide) rfl ?_
  refine z_iconst hx (v := nI 0) dX1_restAbove_28 (by decide +kernel) ?_
  refine z_istore hx (lv2 := [(5, .int (nI 0)), (3, .long ((Int64.ofInt (zLn w mm d (cd t) (rd t) t (zunk w d))) * (Int64.ofInt D))), (0, .ref (E.2.2.2 7)), (1, .ref (E.2.2.2 a)), (2, .int (nI t))]) dX1_restAbove_29 (by decide) rfl ?_
  have loop31 : ∀ (fuel31 : Nat) (i : Nat) (_ : i ≤ zunk w d), zunk w d - i < fuel31 → zJ E x 31 [(5, .int (nI i)), (3, .long (Int64.ofInt (zLn w mm d (cd t) (rd t) t (zunk w d) * D - zS i (fun k => zLn w mm d (cd t) (rd t) t k * T k (zunk w d))))), (0, .ref (E.2.2.2 7)), (1, .ref (E.2.2.2 a)), (2, .int (nI t))] [] (zsetJ M 10 (fun i => if i ≤ zunk w d then Int64.ofInt (zLn w mm d (cd t) (rd t) t i) else M.2 10 i)) := by
    intro fuel31
    induction fuel31 with
    | zero =>
      intros; omega
    | succ fuel31 ih31 =>
      intro i hi hfuel31
      refine z_iload hx 0 dX1_restAbove_31 rfl ?_
      refine z_aload_n hx 2 dX1_restAbove_33 rfl rfl ?_
      refine zg_X1_5 hx zw_136 dX1_restAbove_34 ?_
      refine z_eqi (zskSJI h5) ?_
      refine z_icmp_ge_n (tgt := 63) hx (by omega) (by omega) dX1_restAbove_37 (by decide) (fun h37 => ?_) (fun h37 => ?_)
      · skip
        refine z_lload_n hx 1 dX1_restAbove_63 rfl rfl ?_
        exact rl _ _ _ _ rfl ⟨_, rfl, ⟨by rw [show i = zunk w d by omega], zfr_setJ rfl⟩⟩ dX1_restAbove_64
      · skip
        refine z_lload_n hx 1 dX1_restAbove_40 rfl rfl ?_
        refine z_aload_n hx 2 dX1_restAbove_41 rfl rfl ?_
        refine zg_X1_2 hx zw_133 dX1_restAbove_42 ?_
        refine z_iload hx 0 dX1_restAbove_45 rfl ?_
        refine z_lald_n hx (zJA_10 E) (by omega) dX1_restAbove_47 ?_
        refine z_eql zhtSJ ?_
        refine z_eql (if_pos (by omega)) ?_
        refine z_aload_n hx 2 dX1_restAbove_48 rfl rfl ?_
        refine z_iload hx 0 dX1_restAbove_49 rfl ?_
        refine z_callV hx (As := [.int (nI i)]) (st := [.long (Int64.ofInt (zLn w mm d (cd t) (rd t) t i)), .long (Int64.ofInt (zLn w mm d (cd t) (rd t) t (zunk w d) * D - zS i (fun k => zLn w mm d (cd t) (rd t) t k * T k (zunk w d))))]) (k_X1_valueAbove hI (zsetJ M 10 (fun i => if i ≤ zunk w d then Int64.ofInt (zLn w mm d (cd t) (rd t) t i) else M.2 10 i)) (i := i) (zskSJI h5) hu (by omega) (fun i j z1 z2 => zskSJ (by omega) (hT i j z1 z2))) zw_447 zy_X1_valueAbove ⟨rfl, rfl⟩ (by decide) (zOB_X1 E) rfl rfl rfl rfl (Nat.le_of_ble_eq_true rfl) dX1_restAbove_51 ?_
        rintro _ M51 ⟨v51, rfl, q51⟩
        obtain ⟨rfl, rfl⟩ := q51
        show zJ E x 54 _ [.long (Int64.ofInt (T i (zunk w d))), .long (Int64.ofInt (zLn w mm d (cd t) (rd t) t i)), .long (Int64.ofInt (zLn w mm d (cd t) (rd t) t (zunk w d) * D - zS i (fun k => zLn w mm d (cd t) (rd t) t k * T k (zunk w d))))] _
        refine z_lmul hx dX1_restAbove_54 ?_
        refine z_lsub hx dX1_restAbove_55 ?_
        refine z_lstore_n hx (lv2 := [(3, .long ((Int64.ofInt (zLn w mm d (cd t) (rd t) t (zunk w d) * D - zS i (fun k => zLn w mm d (cd t) (rd t) t k * T k (zunk w d)))) - ((Int64.ofInt (zLn w mm d (cd t) (rd t) t i)) * (Int64.ofInt (T i (zunk w d)))))), (5, .int (nI i)), (0, .ref (E.2.2.2 7)), (1, .ref (E.2.2.2 a)), (2, .int (nI t))]) dX1_restAbove_56 rfl (by decide) rfl ?_
        refine z_iinc hx (w := nI (i + 1)) (lv2 := [(5, .int (nI (i + 1))), (3, .long ((Int64.ofInt (zLn w mm d (cd t) (rd t) t (zunk w d) * D - zS i (fun k => zLn w mm d (cd t) (rd t) t k * T k (zunk w d)))) - ((Int64.ofInt (zLn w mm d (cd t) (rd t) t i)) * (Int64.ofInt (T i (zunk w d)))))), (0, .ref (E.2.2.2 7)), (1, .ref (E.2.2.2 a)), (2, .int (nI t))]) 1 dX1_restAbove_57 rfl (z_inc _) (by decide) rfl ?_
        refine z_goto (tgt := 31) hx dX1_restAbove_60 (by decide) ?_
        exact z_to (ih31 (i + 1) (by omega) (by omega)) [0, 1, 2, 3, 4] (by rw [zI64_mul, zI64_sub, zS, Int.sub_sub]; rfl) rfl
  exact z_to (loop31 _ 0 (by omega) (Nat.lt_succ_self _)) [0, 1, 2, 3, 4] (by rw [show zS 0 _ = 0 from rfl, Int.sub_zero, ← zI64_mul]; rfl) rfl
