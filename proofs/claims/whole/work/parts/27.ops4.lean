def zvs (r : zRo) (d : Bool) : Nat → Nat → Int := fun t => zLn r.1 r.2.2.1 d (r.2.2.2.1 t) (r.2.2.2.2 t) t
def zop_rank (r : zRo) (d : Bool) : Nat := (zrkS (zunk r.1 d) (zvs r d) r.2.1).1
/-- without weighing t: what is left over, if it is determined -/
def zqd (r : zRo) (d : Bool) (t : Nat) : Option (Int × Int) := if 0 < zdet (zunk r.1 d) (zGm r d (zbut t)) then some (zSq (zGm r d (zbut t)) (zunk r.1 d), zdet (zunk r.1 d) (zGm r d (zbut t))) else none
def zop_doubtful (r : zRo) (d : Bool) : Int32 := zbi (zbest (zqd r d) r.2.1)
def zop_wrong (r : zRo) (d : Bool) : Int32 := zwb (zqd r d) r.2.1
theorem zbest_cong {p q : Nat → Option (Int × Int)} : ∀ {n : Nat}, (∀ t, t < n → p t = q t) → zbest p n = zbest q n
  | 0, _ => rfl
  | n + 1, h => by rw [zbest, zbest, zbest_cong (fun t ht => h t (Nat.lt_succ_of_lt ht)), h n (Nat.lt_succ_self n)]
theorem zwb_cong {p q : Nat → Option (Int × Int)} : ∀ {n : Nat}, (∀ t, t < n → p t = q t) → zwb p n = zwb q n
  | 0, _ => rfl
  | n + 1, h => by rw [zwb, zwb, zwb_cong (fun t ht => h t (Nat.lt_succ_of_lt ht)), h n (Nat.lt_succ_self n)]
theorem zth_all (hth : zTheory) {r : zRo} (hv : zVr r) (d : Bool) : ∃ (T : Nat → Nat → Nat → Nat → Int) (D : Nat → Nat → Int), (∀ t, zTb (zunk r.1 d) (zGm r d (zbut t)) (T t) (D t)) ∧ (∀ t, zq (zunk r.1 d) T D t = zqd r d t) ∧ (∀ s t, 0 < D s (zunk r.1 d) → 0 < D t (zunk r.1 d) → zrg (T s (zunk r.1 d) (zunk r.1 d) (zunk r.1 d) * D t (zunk r.1 d))) ∧ (∀ t, 0 < D t (zunk r.1 d) → zrg (T t (zunk r.1 d) (zunk r.1 d) (zunk r.1 d))) := by
  have h := Classical.axiomOfChoice (fun t => hth r d (zbut t) hv)
  obtain ⟨T, hT⟩ := h
  have h2 := Classical.axiomOfChoice hT
  obtain ⟨D, hD⟩ := h2
  refine ⟨T, D, fun t => (hD t).1, fun t => ?_, fun s t hs ht => ?_, fun t ht => zab_rg ((hD t).2.2.2.2 ht).1 (by decide)⟩
  · unfold zq zqd
    rw [(hD t).2.1]
    by_cases q : 0 < zdet (zunk r.1 d) (zGm r d (zbut t))
    · rw [if_pos q, if_pos q]
      have h5 := (hD t).2.2.2.2 (by rw [(hD t).2.1]; exact q)
      rw [h5.2.1]
    · rw [if_neg q, if_neg q]
  · have h1 := ((hD s).2.2.2.2 hs).1
    have h2 : zab (D t (zunk r.1 d)) 600000 := by have := (hD t).2.2.1; have := (hD t).2.2.2.1; unfold zab; omega
    exact zab_rg (zab_mul2 (by decide) (by decide) h1 h2) (by decide)
theorem kc_md {E : zE} (hI : zI E) (hth : zTheory) (M : zM) {a : Nat} {r : zRo} (ha : zRoom a) (hr : zHr M a r) (d : Bool) : zK E yX1_mostDoubtful (.code yX1_mostDoubtful cX1_mostDoubtful 9 (some .int)) (zrm 4 99) [.ref (E.2.2.2 7), .ref (E.2.2.2 a), .int (zdr d)] M (zpi (fun v M2 => v = zop_doubtful r d ∧ zfr (fun c => c = 7 ∨ c = 10 ∨ 15 ≤ c ∧ c ≤ 26) M M2)) := by
  obtain ⟨w, n, mm, cd, rd⟩ := r
  obtain ⟨T, D, h1, h2, h3, h4⟩ := zth_all hth (zHr_v hr) d
  refine zK_mono (k_X1_mostDoubtful hI M (cd := cd) (rd := rd) (T := T) (D := D) ha hr d (fun t _ => h1 t) (fun s t _ _ => h3 s t)) ?_
  rintro _ M2 ⟨v, rfl, e, hf⟩
  refine ⟨v, rfl, ?_, hf⟩
  rw [e]
  unfold zop_doubtful
  rw [zbest_cong (fun t _ => h2 t)]
theorem kc_ta {E : zE} (hI : zI E) (hth : zTheory) (M : zM) {a : Nat} {r : zRo} (ha : zRoom a) (hr : zHr M a r) (d : Bool) : zK E yX1_thoseAlone (.code yX1_thoseAlone cX1_thoseAlone 5 (some .int)) (zrm 4 99) [.ref (E.2.2.2 7), .ref (E.2.2.2 a), .int (zdr d)] M (zpi (fun v M2 => v = zop_wrong r d ∧ zfr (fun c => c = 7 ∨ c = 10 ∨ 15 ≤ c ∧ c ≤ 26) M M2)) := by
  obtain ⟨w, n, mm, cd, rd⟩ := r
  obtain ⟨T, D, h1, h2, h3, h4⟩ := zth_all hth (zHr_v hr) d
  refine zK_mono (k_X1_thoseAlone hI M (cd := cd) (rd := rd) (T := T) (D := D) ha hr d (fun t _ => h1 t) (fun t _ => h4 t)) ?_
  rintro _ M2 ⟨v, rfl, e, hf⟩
  refine ⟨v, rfl, ?_, hf⟩
  rw [e]
  unfold zop_wrong
  rw [zwb_cong (fun t _ => h2 t)]
set_option maxHeartbeats 4000000 in
set_option maxRecDepth 100000 in
theorem k_X5_doubtful {E : zE} (hI : zI E) (M : zM) {σ : zSt} (hσ : zCs M σ) (hth : zTheory) (d : Bool) : zK E yX5_doubtful (.code yX5_doubtful cX5_doubtful 2 (some .int)) (zrm 5 127) [.ref (E.2.2.2 0), .int (zdr d)] M (zpi (fun v M2 => v = zop_doubtful σ.2.2.1 d ∧ zCs M2 σ ∧ zfC M M2)) := by
  refine zK_of hI (by decide) (Nat.le_of_ble_eq_true rfl) (fun x hx ri rz rl rv => ?_)
  show zJ E x 0 [(0, .ref (E.2.2.2 0)), (1, .int (zdr d))] [] M
  obtain ⟨tx, len, ⟨w, n, mm, cd, rd⟩, as, s, sl, sd⟩ := σ
  have hσ2 := hσ
  obtain ⟨hT, hH, hA, hS, hD, hO⟩ := hσ
  have hR : zRm M 46 w n mm cd rd := hH
  have hTx : zTx M tx len := hT
  have hn8 := hR.2.2.2.2.2.1
  have hw4 := hR.2.1
  have hlen := hTx.2.1
  have hsd : M.2 0 8 = sd := hD
  obtain ⟨o, ho14, ho, hs, hs14, has⟩ := id hA
  have hs : M.1 4 2 = nI s := hs
  have hs14 : s ≤ 14 := hs14
  refine z_aload_n hx 0 dX5_doubtful_0 rfl rfl ?_
  refine zg_X5_6 hx zw_180 dX5_doubtful_1 ?_
  refine z_aload_n hx 0 dX5_doubtful_4 rfl rfl ?_
  refine zg_X5_1 hx zw_175 dX5_doubtful_5 ?_
  refine z_iload_n hx 1 dX5_doubtful_8 rfl rfl ?_
  refine z_callV hx (As := [.ref (E.2.2.2 46), .int (zdr d)]) (st := []) (kc_md hI hth M zRoom_46 hH d) zw_483 zy_X1_mostDoubtful ⟨rfl, rfl⟩ (by decide) (zOB_X1 E) rfl rfl rfl rfl (Nat.le_of_ble_eq_true rfl) dX5_doubtful_9 ?_
  rintro _ M9 ⟨v9, rfl, q9⟩
  show zJ E x 12 _ [.int v9] _
  exact ri _ _ _ _ rfl ⟨_, rfl, ⟨q9.1, zCs_scr hσ2 (zfr_w q9.2 (fun c h => by omega))⟩⟩ dX5_doubtful_12
set_option maxHeartbeats 4000000 in
set_option maxRecDepth 100000 in
theorem k_X5_wrong {E : zE} (hI : zI E) (M : zM) {σ : zSt} (hσ : zCs M σ) (hth : zTheory) (d : Bool) : zK E yX5_wrong (.code yX5_wrong cX5_wrong 2 (some .int)) (zrm 5 123) [.ref (E.2.2.2 0), .int (zdr d)] M (zpi (fun v M2 => v = zop_wrong σ.2.2.1 d ∧ zCs M2 σ ∧ zfC M M2)) := by
  refine zK_of hI (by decide) (Nat.le_of_ble_eq_true rfl) (fun x hx ri rz rl rv => ?_)
  show zJ E x 0 [(0, .ref (E.2.2.2 0)), (1, .int (zdr d))] [] M
  obtain ⟨tx, len, ⟨w, n, mm, cd, rd⟩, as, s, sl, sd⟩ := σ
  have hσ2 := hσ
  obtain ⟨hT, hH, hA, hS, hD, hO⟩ := hσ
  have hR : zRm M 46 w n mm cd rd := hH
  have hTx : zTx M tx len := hT
  have hn8 := hR.2.2.2.2.2.1
  have hw4 := hR.2.1
  have hlen := hTx.2.1
  have hsd : M.2 0 8 = sd := hD
  obtain ⟨o, ho14, ho, hs, hs14, has⟩ := id hA
  have hs : M.1 4 2 = nI s := hs
  have hs14 : s ≤ 14 := hs14
  refine z_aload_n hx 0 dX5_wrong_0 rfl rfl ?_
  refine zg_X5_6 hx zw_180 dX5_wrong_1 ?_
  refine z_aload_n hx 0 dX5_wrong_4 rfl rfl ?_
  refine zg_X5_1 hx zw_175 dX5_wrong_5 ?_
  refine z_iload_n hx 1 dX5_wrong_8 rfl rfl ?_
  refine z_callV hx (As := [.ref (E.2.2.2 46), .int (zdr d)]) (st := []) (kc_ta hI hth M zRoom_46 hH d) zw_497 zy_X1_thoseAlone ⟨rfl, rfl⟩ (by decide) (zOB_X1 E) rfl rfl rfl rfl (Nat.le_of_ble_eq_true rfl) dX5_wrong_9 ?_
  rintro _ M9 ⟨v9, rfl, q9⟩
  show zJ E x 12 _ [.int v9] _
  exact ri _ _ _ _ rfl ⟨_, rfl, ⟨q9.1, zCs_scr hσ2 (zfr_w q9.2 (fun c h => by omega))⟩⟩ dX5_wrong_12
set_option maxHeartbeats 4000000 in
set_option maxRecDepth 100000 in
theorem k_X5_rank {E : zE} (hI : zI E) (M : zM) {σ : zSt} (hσ : zCs M σ) (d : Bool) : zK E yX5_rank (.code yX5_rank cX5_rank 2 (some .int)) (zrm 4 97) [.ref (E.2.2.2 0), .int (zdr d)] M (zpi (fun v M2 => v = nI (zop_rank σ.2.2.1 d) ∧ zCs M2 σ ∧ zfC M M2)) := by
  refine zK_of hI (by decide) (Nat.le_of_ble_eq_true rfl) (fun x hx ri rz rl rv => ?_)
  show zJ E x 0 [(0, .ref (E.2.2.2 0)), (1, .int (zdr d))] [] M
  obtain ⟨tx, len, ⟨w, n, mm, cd, rd⟩, as, s, sl, sd⟩ := σ
  have hσ2 := hσ
  obtain ⟨hT, hH, hA, hS, hD, hO⟩ := hσ
  have hR : zRm M 46 w n mm cd rd := hH
  have hTx : zTx M tx len := hT
  have hn8 := hR.2.2.2.2.2.1
  have hw4 := hR.2.1
  have hlen := hTx.2.1
  have hsd : M.2 0 8 = sd := hD
  obtain ⟨o, ho14, ho, hs, hs14, has⟩ := id hA
  have hs : M.1 4 2 = nI s := hs
  have hs14 : s ≤ 14 := hs14
  refine z_aload_n hx 0 dX5_rank_0 rfl rfl ?_
  refine zg_X5_7 hx zw_181 dX5_rank_1 ?_
  refine z_aload_n hx 0 dX5_rank_4 rfl rfl ?_
  refine zg_X5_1 hx zw_175 dX5_rank_5 ?_
  refine z_iload_n hx 1 dX5_rank_8 rfl rfl ?_
  refine z_callV hx (As := [.ref (E.2.2.2 46), .int (zdr d)]) (st := []) (k_X2_ofAll hI M zRoom_46 hR d) zw_349 zy_X2_ofAll ⟨rfl, rfl⟩ (by decide) (zOB_X2 E) rfl rfl rfl rfl (Nat.le_of_ble_eq_true rfl) dX5_rank_9 ?_
  rintro _ M9 ⟨v9, rfl, q9⟩
  show zJ E x 12 _ [.int v9] _
  exact ri _ _ _ _ rfl ⟨_, rfl, ⟨q9.1, zCs_scr hσ2 (zfr_w q9.2 (fun c h => by omega))⟩⟩ dX5_rank_12
set_option maxHeartbeats 4000000 in
set_option maxRecDepth 100000 in
theorem k_X5_power {E : zE} (hI : zI E) (M : zM) (b e : Nat) (he : e < 100) : zK E yX5_power (.code yX5_power cX5_power 4 (some .int)) (zrm 0 0) [.int (nI b), .int (nI e)] M (zpi (fun v M2 => v = nI (b ^ e) ∧ M2 = M)) := by
  refine zK_of hI (by decide) (Nat.le_of_ble_eq_true rfl) (fun x hx ri rz rl rv => ?_)
  show zJ E x 0 [(0, .int (nI b)), (1, .int (nI e))] [] M
  refine z_iconst hx (v := nI 1) dX5_power_0 (by decide +kernel) ?_
  refine z_istore_n hx (lv2 := [(2, .int (nI 1)), (0, .int (nI b)), (1, .int (nI e))]) dX5_power_1 rfl (by decide) rfl ?_
  refine z_iconst hx (v := nI 0) dX5_power_2 (by decide +kernel) ?_
  refine z_istore_n hx (lv2 := [(3, .int (nI 0)), (2, .int (nI 1)), (0, .int (nI b)), (1, .int (nI e))]) dX5_power_3 rfl (by decide) rfl ?_
  have loop4 : ∀ (fuel4 : Nat) (k : Nat) (_ : k ≤ e), e - k < fuel4 → zJ E x 4 [(3, .int (nI k)), (2, .int (nI (b ^ k))), (0, .int (nI b)), (1, .int (nI e))] [] M := by
    intro fuel4
    induction fuel4 with
    | zero =>
      intros; omega
    | succ fuel4 ih4 =>
      intro k hk hfuel4
      refine z_iload_n hx 0 dX5_power_4 rfl rfl ?_
      refine z_iload_n hx 3 dX5_power_5 rfl rfl ?_
      refine z_icmp_ge_n (tgt := 19) hx (by omega) (by omega) dX5_power_6 (by decide) (fun h6 => ?_) (fun h6 => ?_)
      · skip
        refine z_iload_n hx 1 dX5_power_19 rfl rfl ?_
        exact ri _ _ _ _ rfl ⟨_, rfl, ⟨by rw [show k = e by omega], rfl⟩⟩ dX5_power_20
      · skip
        refine z_iload_n hx 1 dX5_power_9 rfl rfl ?_
        refine z_iload_n hx 2 dX5_power_10 rfl rfl ?_
        refine z_imul_n hx dX5_power_11 ?_
        refine z_istore_n hx (lv2 := [(2, .int (nI ((b ^ k) * b))), (3, .int (nI k)), (0, .int (nI b)), (1, .int (nI e))]) dX5_power_12 rfl (by decide) rfl ?_
        refine z_iinc hx (w := nI (k + 1)) (lv2 := [(3, .int (nI (k + 1))), (2, .int (nI ((b ^ k) * b))), (0, .int (nI b)), (1, .int (nI e))]) 1 dX5_power_13 rfl (z_inc _) (by decide) rfl ?_
        refine z_goto (tgt := 4) hx dX5_power_16 (by decide) ?_
        exact z_to (ih4 (k + 1) (by omega) (by omega)) [0, 1, 2, 3] rfl rfl
  exact z_to (loop4 _ 0 (by omega) (Nat.lt_succ_self _)) [0, 1, 2, 3] rfl rfl
/-- the code of k, nothing being on the master's pan: its figures to the base 3, the lowest last -/
def zcn (k : Nat) : Nat → Nat
  | 0 => 0
  | i + 1 => zcn k i + k / 3 ^ i % 3 * 10 ^ i
theorem zcn_lt (k : Nat) : ∀ i, zcn k i < 10 ^ i
  | 0 => by simp [zcn]
  | i + 1 => by
    have h := zcn_lt k i
    have h2 : k / 3 ^ i % 3 * 10 ^ i ≤ 2 * 10 ^ i := Nat.mul_le_mul_right _ (by omega)
    rw [zcn, Nat.pow_succ]
    omega
theorem zcn_dig (k : Nat) : ∀ i j, zcn k i / 10 ^ j % 10 ≤ 2
  | 0, j => by simp [zcn]
  | i + 1, j => by
    have h := zcn_lt k i
    rw [zcn]
    rcases Nat.lt_or_ge j i with q | q
    · -- below the figure that comes
      have e : zcn k i + k / 3 ^ i % 3 * 10 ^ i = zcn k i + 10 ^ j * (10 ^ (i - j) * (k / 3 ^ i % 3)) := by
        rw [← Nat.mul_assoc, ← Nat.pow_add, show j + (i - j) = i by omega, Nat.mul_comm (10 ^ i)]
      rw [e, Nat.add_mul_div_left _ _ (Nat.pow_pos (by decide)), show i - j = (i - j - 1) + 1 by omega, Nat.pow_succ, Nat.mul_comm (10 ^ (i - j - 1)) 10, Nat.mul_assoc, Nat.add_mul_mod_self_left]
      exact zcn_dig k i j
    · rcases Nat.lt_or_ge i j with q2 | q2
      · have h2 : k / 3 ^ i % 3 * 10 ^ i ≤ 2 * 10 ^ i := Nat.mul_le_mul_right _ (by omega)
        have h3 : 10 ^ (i + 1) ≤ 10 ^ j := Nat.pow_le_pow_right (by decide) (by omega)
        rw [Nat.pow_succ] at h3
        rw [Nat.div_eq_of_lt (by omega)]
        decide
      · obtain rfl : i = j := by omega
        rw [Nat.add_mul_div_right _ _ (Nat.pow_pos (by decide)), Nat.div_eq_of_lt h]
        omega
theorem zcn_code (k w : Nat) : zcode w (zcn k w) := ⟨Nat.lt_of_lt_of_le (zcn_lt k w) (Nat.pow_le_pow_right (by decide) (by omega)), fun j _ => zcn_dig k w j⟩
set_option maxHeartbeats 4000000 in
set_option maxRecDepth 100000 in
theorem k_X5_numbered {E : zE} (hI : zI E) (M : zM) (k w : Nat) (hw : w ≤ 4) (hk : k < 100) : zK E yX5_numbered (.code yX5_numbered cX5_numbered 6 (some .int)) (zrm 0 0) [.int (nI k), .int (nI w)] M (zpi (fun v M2 => v = nI (zcn k w) ∧ M2 = M)) := by
  refine zK_of hI (by decide) (Nat.le_of_ble_eq_true rfl) (fun x hx ri rz rl rv => ?_)
  show zJ E x 0 [(0, .int (nI k)), (1, .int (nI w))] [] M
  refine z_iconst hx (v := nI 0) dX5_numbered_0 (by decide +kernel) ?_
  refine z_istore_n hx (lv2 := [(2, .int (nI 0)), (0, .int (nI k)), (1, .int (nI w))]) dX5_numbered_1 rfl (by decide) rfl ?_
  refine z_iconst hx (v := nI 1) dX5_numbered_2 (by decide +kernel) ?_
  refine z_istore_n hx (lv2 := [(3, .int (nI 1)), (2, .int (nI 0)), (0, .int (nI k)), (1, .int (nI w))]) dX5_numbered_3 rfl (by decide) rfl ?_
  refine z_iload_n hx 2 dX5_numbered_4 rfl rfl ?_
  refine z_istore hx (lv2 := [(4, .int (nI k)), (3, .int (nI 1)), (2, .int (nI 0)), (0, .int (nI k)), (1, .int (nI w))]) dX5_numbered_5 (by decide) rfl ?_
  refine z_iconst hx (v := nI 0) dX5_numbered_7 (by decide +kernel) ?_
  refine z_istore hx (lv2 := [(5, .int (nI 0)), (4, .int (nI k)), (3, .int (nI 1)), (2, .int (nI 0)), (0, .int (nI k)), (1, .int (nI w))]) dX5_numbered_8 (by decide) rfl ?_
  have loop10 : ∀ (fuel10 : Nat) (i : Nat) (_ : i ≤ w), w - i < fuel10 → zJ E x 10 [(5, .int (nI i)), (4, .int (nI (k / 3 ^ i))), (3, .int (nI (10 ^ i))), (2, .int (nI (zcn k i))), (0, .int (nI k)), (1, .int (nI w))] [] M := by
    intro fuel10
    induction fuel10 with
    | zero =>
      intros; omega
    | succ fuel10 ih10 =>
      intro i hi hfuel10
      refine z_iload hx 0 dX5_numbered_10 rfl ?_
      refine z_iload_n hx 5 dX5_numbered_12 rfl rfl ?_
      refine z_icmp_ge_n (tgt := 42) hx (by omega) (by omega) dX5_numbered_13 (by decide) (fun h13 => ?_) (fun h13 => ?_)
      · skip
        refine z_iload_n hx 3 dX5_numbered_42 rfl rfl ?_
        exact ri _ _ _ _ rfl ⟨_, rfl, ⟨by rw [show i = w by omega], rfl⟩⟩ dX5_numbered_43
      · skip
        have hd := Nat.div_le_self k (3 ^ i)
        refine z_iload_n hx 3 dX5_numbered_16 rfl rfl ?_
        refine z_iload hx 1 dX5_numbered_17 rfl ?_
        refine z_iconst hx (v := nI 3) dX5_numbered_19 (by decide +kernel) ?_
        refine z_irem_n hx (by omega) (by omega) (by omega) dX5_numbered_20 ?_
        refine z_iload_n hx 2 dX5_numbered_21 rfl rfl ?_
        refine z_imul_n hx dX5_numbered_22 ?_
        refine z_iadd_n hx dX5_numbered_23 ?_
        refine z_istore_n hx (lv2 := [(2, .int (nI ((zcn k i) + (((k / 3 ^ i) % 3) * (10 ^ i))))), (5, .int (nI i)), (4, .int (nI (k / 3 ^ i))), (3, .int (nI (10 ^ i))), (0, .int (nI k)), (1, .int (nI w))]) dX5_numbered_24 rfl (by decide) rfl ?_
        refine z_iload hx 2 dX5_numbered_25 rfl ?_
        refine z_iconst hx (v := nI 3) dX5_numbered_27 (by decide +kernel) ?_
        refine z_idiv_n hx (by omega) (by omega) (by omega) dX5_numbered_28 ?_
        refine z_istore hx (lv2 := [(4, .int (nI ((k / 3 ^ i) / 3))), (2, .int (nI ((zcn k i) + (((k / 3 ^ i) % 3) * (10 ^ i))))), (5, .int (nI i)), (3, .int (nI (10 ^ i))), (0, .int (nI k)), (1, .int (nI w))]) dX5_numbered_29 (by decide) rfl ?_
        refine z_iload_n hx 3 dX5_numbered_31 rfl rfl ?_
        refine z_bipush hx (v := nI 10) dX5_numbered_32 (by decide +kernel) ?_
        refine z_imul_n hx dX5_numbered_34 ?_
        refine z_istore_n hx (lv2 := [(3, .int (nI ((10 ^ i) * 10))), (4, .int (nI ((k / 3 ^ i) / 3))), (2, .int (nI ((zcn k i) + (((k / 3 ^ i) % 3) * (10 ^ i))))), (5, .int (nI i)), (0, .int (nI k)), (1, .int (nI w))]) dX5_numbered_35 rfl (by decide) rfl ?_
        refine z_iinc hx (w := nI (i + 1)) (lv2 := [(5, .int (nI (i + 1))), (3, .int (nI ((10 ^ i) * 10))), (4, .int (nI ((k / 3 ^ i) / 3))), (2, .int (nI ((zcn k i) + (((k / 3 ^ i) % 3) * (10 ^ i))))), (0, .int (nI k)), (1, .int (nI w))]) 3 dX5_numbered_36 rfl (z_inc _) (by decide) rfl ?_
        refine z_goto (tgt := 10) hx dX5_numbered_39 (by decide) ?_
        exact z_to (ih10 (i + 1) (by omega) (by omega)) [0, 2, 1, 3, 4, 5] (by rw [Nat.pow_succ 3 i, ← Nat.div_div_eq_div_mul]; rfl) rfl
  exact z_to (loop10 _ 0 (by omega) (Nat.lt_succ_self _)) [0, 1, 2, 3, 4, 5] (by rw [Nat.pow_zero, Nat.div_one]; rfl) rfl
/-- one more weighing of code c behind all -/
def zmore (r : zRo) (c : Nat) : zRo := (r.1, r.2.1 + 1, r.2.2.1, va_up r.2.2.2.1 r.2.1 c, va_up r.2.2.2.2 r.2.1 0)
/-- all spreads together, if it is determined -/
def zqt (r : zRo) (d : Bool) : Option (Int × Int) := if 0 < zdet (zunk r.1 d) (zGm r d zall) then some (zS r.1 (fun k => zMin (zGm r d zall) (zunk r.1 d) k), zdet (zunk r.1 d) (zGm r d zall)) else none
def zqn (r : zRo) (d : Bool) (k : Nat) : Option (Int × Int) := zqt (zmore r (zcn k r.1)) d
def zcb (w : Nat) (o : Option (Nat × Int × Int)) : Int32 := match o with
  | none => -9
  | some (k, _, _) => nI (zcn k w)
def zop_next (r : zRo) (d : Bool) : Int32 := if 8 ≤ r.2.1 then -4 else zcb r.1 (zbest (zqn r d) (3 ^ r.1))
theorem zcb_none {w : Nat} (hw : w ≤ 4) {o : Option (Nat × Int × Int)} : zcb w o = -9 ↔ o = none := by
  cases o with
  | none => exact ⟨fun _ => rfl, fun _ => rfl⟩
  | some p =>
    obtain ⟨k, x, y⟩ := p
    refine ⟨fun h => ?_, fun h => by cases h⟩
    have h' : nI (zcn k w) = -9 := h
    have h5 := zcode_5 hw (zcn_code k w)
    have h2 := congrArg Int32.toInt h'
    rw [nI_toInt (by omega), show (-9 : Int32).toInt = -9 by decide +kernel] at h2
    omega
theorem zqt_some {r : zRo} {d : Bool} {x y : Int} (hth : zTheory) (hv : zVr r) (h : zqt r d = some (x, y)) : zab x 4000000 ∧ 0 < y ∧ y ≤ 600000 := by
  unfold zqt at h
  split at h
  · rename_i h0
    cases h
    obtain ⟨T, D, h1, h2, h3, h4, h5⟩ := hth r d zall hv
    have h6 := h5 (by rw [h2]; exact h0)
    refine ⟨?_, h0, by rw [← h2]; exact h4⟩
    have hu : r.1 ≤ zunk r.1 d := by unfold zunk; split <;> omega
    have h7 := zS_ab (b := 1000000) (by decide) (n := r.1) (f := fun k => zMin (zGm r d zall) (zunk r.1 d) k) (fun k hk => by
      have h8 := h6.2.2 k (by omega)
      have h9 := h8.2.2.1
      have h10 := h8.2.2.2
      unfold zab at *
      omega)
    have h8 := hv.1
    have h9 : (r.1 : Int) * 1000000 ≤ 4 * 1000000 := by omega
    unfold zab at *
    omega
  · cases h
theorem zGm_more {r : zRo} {d : Bool} {c : Nat} (p q : Nat) : zGm (zmore r c) d zall p q = zGm r d zall p q + zLn r.1 r.2.2.1 d c 0 r.2.1 p * zLn r.1 r.2.2.1 d c 0 r.2.1 q := by
  unfold zGm zmore zGr zall
  dsimp only
  rw [zS]
  simp only [va_up, if_true]
  congr 1
  exact zS_cong (fun k hk => by
    have : ¬ k = r.2.1 := by omega
    simp [this])
theorem zVr_more {r : zRo} (h : zVr r) {c : Nat} (hc : zcode r.1 c) (h8 : r.2.1 < 8) : zVr (zmore r c) := by
  refine ⟨h.1, h.2.1, by show r.2.1 + 1 ≤ 8; omega, fun t ht => ?_⟩
  have ht2 : t < r.2.1 + 1 := ht
  show zcode r.1 (va_up r.2.2.2.1 r.2.1 c t) ∧ -1000 ≤ va_up r.2.2.2.2 r.2.1 0 t ∧ va_up r.2.2.2.2 r.2.1 0 t ≤ 1000
  unfold va_up
  by_cases e : t = r.2.1
  · rw [if_pos e, if_pos e]
    exact ⟨hc, by decide, by decide⟩
  · rw [if_neg e, if_neg e]
    exact h.2.2.2 t (by omega)
theorem zRm_code {M : zM} {a w n mm c0 c : Nat} {cd : Nat → Nat} {rd : Nat → Int} (h : zRm M a w (n + 1) mm (va_up cd n c0) (va_up rd n 0)) (hc : zcode w c) : zRm (zputI M (a + 1) n (nI c)) a w (n + 1) mm (va_up cd n c) (va_up rd n 0) := by
  obtain ⟨q1, q2, q3, q4, q5, q6, q7⟩ := h
  refine ⟨zskI (by omega) q1, q2, zskI (by omega) q3, q4, zskI (by omega) q5, q6, fun t ht => ?_⟩
  obtain ⟨r1, r2, r3, r4, r5⟩ := q7 t ht
  by_cases e : t = n
  · subst e
    have ev : va_up cd t c t = c := by simp [va_up]
    rw [ev]
    exact ⟨zhtI, zcode_5 q2.2 hc, hc, zskI (by omega) r4, r5⟩
  · have ev : va_up cd n c t = va_up cd n c0 t := by simp [va_up, e]
    rw [ev]
    exact ⟨zskK e r1, r2, r3, zskI (by omega) r4, r5⟩
theorem zp3 {w : Nat} (h : w ≤ 4) : 3 ^ w ≤ 81 := by
  rcases (show w = 0 ∨ w = 1 ∨ w = 2 ∨ w = 3 ∨ w = 4 by omega) with rfl | rfl | rfl | rfl | rfl <;> decide
set_option maxHeartbeats 4000000 in
set_option maxRecDepth 100000 in
theorem k_X5_next {E : zE} (hI : zI E) (M : zM) {σ : zSt} (hσ : zCs M σ) (hth : zTheory) (d : Bool) : zK E yX5_next (.code yX5_next cX5_next 10 (some .int)) (zrm 4 99) [.ref (E.2.2.2 0), .int (zdr d)] M (zpi (fun v M2 => v = zop_next σ.2.2.1 d ∧ zCs M2 σ ∧ zfC M M2)) := by
  refine zK_of hI (by decide) (Nat.le_of_ble_eq_true rfl) (fun x hx ri rz rl rv => ?_)
  show zJ E x 0 [(0, .ref (E.2.2.2 0)), (1, .int (zdr d))] [] M
  obtain ⟨tx, len, ⟨w, n, mm, cd, rd⟩, as, s, sl, sd⟩ := σ
  have hσ2 := hσ
  obtain ⟨hT, hH, hA, hS, hD, hO⟩ := hσ
  have hR : zRm M 46 w n mm cd rd := hH
  have hTx : zTx M tx len := hT
  have hn8 := hR.2.2.2.2.2.1
  have hw4 := hR.2.1
  have hlen := hTx.2.1
  have hsd : M.2 0 8 = sd := hD
  obtain ⟨o, ho14, ho, hs, hs14, has⟩ := id hA
  have hs : M.1 4 2 = nI s := hs
  have hs14 : s ≤ 14 := hs14
  have hu := zunk_le hw4.2 d
  have huw : w ≤ zunk w d := by unfold zunk; split <;> omega
  have h81 := zp3 hw4.2
  refine z_aload_n hx 0 dX5_next_0 rfl rfl ?_
  refine zg_X5_1 hx zw_175 dX5_next_1 ?_
  refine zg_X3_2 hx zRoom_46 zw_86 dX5_next_4 ?_
  refine z_eqi (b := nI n) hR.2.2.2.2.1 ?_
  refine z_bipush hx (v := nI 8) dX5_next_7 (by decide +kernel) ?_
  refine z_icmp_lt_n (tgt := 15) hx (by omega) (by omega) dX5_next_9 (by decide) (fun h9 => ?_) (fun h9 => ?_)
  · skip
    refine z_aload_n hx 0 dX5_next_15 rfl rfl ?_
    refine zg_X5_2 hx zw_176 dX5_next_16 ?_
    refine z_aload_n hx 0 dX5_next_19 rfl rfl ?_
    refine zg_X5_1 hx zw_175 dX5_next_20 ?_
    refine z_callV hx (As := [.ref (E.2.2.2 46)]) (st := []) (k_X3_copy hI M (a := 49) (b := 46) zRoom_49 zRoom_46 (by omega)) zw_460 zy_X3_copy ⟨rfl, rfl⟩ (by decide) (zOB_room zRoom_49 E) rfl rfl rfl rfl (Nat.le_of_ble_eq_true rfl) dX5_next_23 ?_
    rintro _ M23 ⟨rfl, q23⟩
    show zJ E x 26 _ [] _
    have hRc : zRm M23 49 w n mm cd rd := zRm_eq ⟨q23.1, q23.2.1⟩ hR
    refine z_aload_n hx 0 dX5_next_26 rfl rfl ?_
    refine zg_X5_2 hx zw_176 dX5_next_27 ?_
    refine z_iconst hx (v := nI 0) dX5_next_30 (by decide +kernel) ?_
    refine z_iconst hx (v := nI 0) dX5_next_31 (by decide +kernel) ?_
    refine z_callV hx (As := [.int (nI 0), .int (nI 0)]) (st := []) (k_X3_append hI M23 zRoom_49 hRc.2.2.2.2.1 (by omega) (nI 0) (nI 0)) zw_309 zy_X3_append ⟨rfl, rfl⟩ (by decide) (zOB_room zRoom_49 E) rfl rfl rfl rfl (Nat.le_of_ble_eq_true rfl) dX5_next_32 ?_
    rintro _ M32 ⟨rfl, q32⟩
    subst q32
    show zJ E x 35 _ [] _
    have hRt : zRm (zputI (zputI (zputI M23 (49 + 1) n (nI 0)) (49 + 2) n (nI 0)) 49 2 (nI (n + 1))) 49 w (n + 1) mm (va_up cd n 0) (va_up rd n 0) := zRm_append (z := 0) hRc (by omega) ⟨Nat.pow_pos (by decide), fun k hk => by simp⟩ (by decide) (by decide)
    refine z_aload_n hx 0 dX5_next_35 rfl rfl ?_
    refine zg_X5_2 hx zw_176 dX5_next_36 ?_
    refine zg_X3_2 hx zRoom_49 zw_86 dX5_next_39 ?_
    refine z_eqi (b := nI (n + 1)) zhtI ?_
    refine z_iconst hx (v := nI 1) dX5_next_42 (by decide +kernel) ?_
    refine z_isub hx dX5_next_43 ?_
    refine z_eqi (b := nI n) (by show nI (n + 1) - 1 = nI n; exact nI_pred n) ?_
    refine z_istore_n hx (lv2 := [(2, .int (nI n)), (0, .ref (E.2.2.2 0)), (1, .int (zdr d))]) dX5_next_44 rfl (by decide) rfl ?_
    refine z_iconst hx (v := nI 3) dX5_next_45 (by decide +kernel) ?_
    refine z_aload_n hx 1 dX5_next_46 rfl rfl ?_
    refine zg_X5_1 hx zw_175 dX5_next_47 ?_
    refine zg_X3_0 hx zRoom_46 zw_81 dX5_next_50 ?_
    refine z_eqi (b := nI w) (zskI (by omega) (zskI (by omega) (zskI (by omega) (by rw [(q23.2.2 46 (by omega)).1]; exact hR.1)))) ?_
    refine z_callS hx (As := [.int (nI 3), .int (nI w)]) (st := []) (k_X5_power hI (zputI (zputI (zputI M23 (49 + 1) n (nI 0)) (49 + 2) n (nI 0)) 49 2 (nI (n + 1))) 3 w (by omega)) zw_461 zy_X5_power ⟨rfl, rfl⟩ (by decide) rfl rfl (Nat.le_of_ble_eq_true rfl) dX5_next_53 ?_
    rintro _ M53 ⟨v53, rfl, q53⟩
    obtain ⟨rfl, q53⟩ := q53
    rw [q53]
    show zJ E x 56 _ [.int (nI (3 ^ w))] _
    refine z_istore_n hx (lv2 := [(3, .int (nI (3 ^ w))), (2, .int (nI n)), (0, .ref (E.2.2.2 0)), (1, .int (zdr d))]) dX5_next_56 rfl (by decide) rfl ?_
    refine z_bipush hx (v := (-9)) dX5_next_57 rfl ?_
    refine z_istore hx (lv2 := [(4, .int (-9)), (3, .int (nI (3 ^ w))), (2, .int (nI n)), (0, .ref (E.2.2.2 0)), (1, .int (zdr d))]) dX5_next_59 (by decide) rfl ?_
    refine z_lconst hx (v := 0) dX5_next_61 rfl ?_
    refine z_lstore hx (lv2 := [(5, .long 0), (4, .int (-9)), (3, .int (nI (3 ^ w))), (2, .int (nI n)), (0, .ref (E.2.2.2 0)), (1, .int (zdr d))]) dX5_next_62 (by decide) rfl ?_
    refine z_lconst hx (v := 1) dX5_next_64 rfl ?_
    refine z_lstore hx (lv2 := [(7, .long 1), (5, .long 0), (4, .int (-9)), (3, .int (nI (3 ^ w))), (2, .int (nI n)), (0, .ref (E.2.2.2 0)), (1, .int (zdr d))]) dX5_next_65 (by decide) rfl ?_
    refine z_aload_n hx 5 dX5_next_67 rfl rfl ?_
    refine zg_X5_6 hx zw_180 dX5_next_68 ?_
    refine z_aload_n hx 5 dX5_next_71 rfl rfl ?_
    refine zg_X5_1 hx zw_175 dX5_next_72 ?_
    refine z_iload_n hx 6 dX5_next_75 rfl rfl ?_
    refine z_callV hx (As := [.ref (E.2.2.2 46), .int (zdr d)]) (st := []) (k_X1_gather hI (zputI (zputI (zputI M23 (49 + 1) n (nI 0)) (49 + 2) n (nI 0)) 49 2 (nI (n + 1))) zRoom_46 (zRm_fr hR (zfr_tr (zfr_w q23.2.2 (fun c h => by omega)) (zfr_tr (zfr_tr (zfr_putI (by omega)) (zfr_putI (by omega))) (zfr_putI (by omega)))) (cs := fun c => 49 ≤ c ∧ c ≤ 51) (by omega) (by omega) (by omega)) d) zw_464 zy_X1_gather ⟨rfl, rfl⟩ (by decide) (zOB_X1 E) rfl rfl rfl rfl (Nat.le_of_ble_eq_true rfl) dX5_next_76 ?_
    rintro _ M76 ⟨rfl, q76⟩
    show zJ E x 79 _ [] _
    refine z_iconst hx (v := nI 0) dX5_next_79 (by decide +kernel) ?_
    refine z_istore hx (lv2 := [(9, .int (nI 0)), (7, .long 1), (5, .long 0), (4, .int (-9)), (3, .int (nI (3 ^ w))), (2, .int (nI n)), (0, .ref (E.2.2.2 0)), (1, .int (zdr d))]) dX5_next_80 (by decide) rfl ?_
    have loop82 : ∀ (fuel82 : Nat) (k : Nat) (N : zM) (_ : k ≤ 3 ^ w) (_ : zfr (fun c => c = 7 ∨ c = 10 ∨ 15 ≤ c ∧ c ≤ 26 ∨ 49 ≤ c ∧ c ≤ 51) M N) (_ : N.1 7 3 = zdr d) (_ : N.1 7 4 = nI w) (_ : N.1 7 5 = nI (zunk w d)) (_ : ∃ c, zRm N 49 w (n + 1) mm (va_up cd n c) (va_up rd n 0)) (_ : ∀ p q, p ≤ q → q ≤ zunk w d → N.2 (15 + 1 * p) q = Int64.ofInt (zGm (w, n, mm, cd, rd) d zall p q)), 3 ^ w - k < fuel82 → zJ E x 82 [(9, .int (nI k)), (7, .long (Int64.ofInt (zbb (zbest (zqn (w, n, mm, cd, rd) d) k)))), (5, .long (Int64.ofInt (zba (zbest (zqn (w, n, mm, cd, rd) d) k)))), (4, .int (zcb w (zbest (zqn (w, n, mm, cd, rd) d) k))), (3, .int (nI (3 ^ w))), (2, .int (nI n)), (0, .ref (E.2.2.2 0)), (1, .int (zdr d))] [] N := by
      intro fuel82
      induction fuel82 with
      | zero =>
        intros; omega
      | succ fuel82 ih82 =>
        intro k N hk hNf hN3 hN4 hN5 hNr hNs hfuel82
        refine z_iload hx 0 dX5_next_82 rfl ?_
        refine z_iload_n hx 4 dX5_next_84 rfl rfl ?_
        refine z_icmp_ge_n (tgt := 190) hx (by omega) (by omega) dX5_next_85 (by decide) (fun h85 => ?_) (fun h85 => ?_)
        · skip
          refine z_iload hx 3 dX5_next_190 rfl ?_
          exact ri _ _ _ _ rfl ⟨_, rfl, ⟨by rw [zop_next, if_neg (by show ¬ 8 ≤ n; omega), show k = 3 ^ w by omega], zCs_scr hσ2 (zfr_w hNf (fun c h => by omega))⟩⟩ dX5_next_192
        · skip
          refine z_aload_n hx 6 dX5_next_88 rfl rfl ?_
          refine zg_X5_2 hx zw_176 dX5_next_89 ?_
          refine zg_X3_3 hx zRoom_49 zw_89 dX5_next_92 ?_
          refine z_iload_n hx 5 dX5_next_95 rfl rfl ?_
          refine z_iload hx 0 dX5_next_96 rfl ?_
          refine z_aload_n hx 6 dX5_next_98 rfl rfl ?_
          refine zg_X5_1 hx zw_175 dX5_next_99 ?_
          refine zg_X3_0 hx zRoom_46 zw_81 dX5_next_102 ?_
          refine z_eqi (b := nI w) (by rw [(hNf 46 (by omega)).1]; exact hR.1) ?_
          refine z_callS hx (As := [.int (nI k), .int (nI w)]) (st := [.int (nI n), .ref (E.2.2.2 (49 + 1))]) (k_X5_numbered hI N k w hw4.2 (by omega)) zw_465 zy_X5_numbered ⟨rfl, rfl⟩ (by decide) rfl rfl (Nat.le_of_ble_eq_true rfl) dX5_next_105 ?_
          rintro _ M105 ⟨v105, rfl, q105⟩
          obtain ⟨rfl, q105⟩ := q105
          rw [q105]
          show zJ E x 108 _ [.int (nI (zcn k w)), .int (nI n), .ref (E.2.2.2 (49 + 1))] _
          refine z_iast_n hx (zIA_codes zRoom_49 E) (by omega) dX5_next_108 ?_
          obtain ⟨c0, hNr⟩ := hNr
          have hRk : zRm (zputI N (49 + 1) n (nI (zcn k w))) 49 w (n + 1) mm (va_up cd n (zcn k w)) (va_up rd n 0) := zRm_code hNr (zcn_code k w)
          obtain ⟨T, D, hTb, hD1, hD2, hD3, hth5⟩ := hth (zmore (w, n, mm, cd, rd) (zcn k w)) d zall (zVr_more (zHr_v hH) (zcn_code k w) (by show n < 8; omega))
          have hD1 : D (zunk w d) = zdet (zunk w d) (zGm (zmore (w, n, mm, cd, rd) (zcn k w)) d zall) := hD1
          have hD2 : 0 ≤ D (zunk w d) := hD2
          have hD3 : D (zunk w d) ≤ 600000 := hD3
          have hTw : zTb (zunk w d) (fun p q => zGm (w, n, mm, cd, rd) d zall p q + zLn w mm d (va_up cd n (zcn k w) n) (va_up rd n 0 n) n p * zLn w mm d (va_up cd n (zcn k w) n) (va_up rd n 0 n) n q) T D := by
            have e : zGm (zmore (w, n, mm, cd, rd) (zcn k w)) d zall = (fun p q => zGm (w, n, mm, cd, rd) d zall p q + zLn w mm d (va_up cd n (zcn k w) n) (va_up rd n 0 n) n p * zLn w mm d (va_up cd n (zcn k w) n) (va_up rd n 0 n) n q) := funext (fun p => funext (fun q => by simp only [va_up, if_true]; exact zGm_more p q))
            rw [← e]
            exact hTb
          refine z_aload_n hx 6 dX5_next_109 rfl rfl ?_
          refine zg_X5_6 hx zw_180 dX5_next_110 ?_
          refine z_aload_n hx 6 dX5_next_113 rfl rfl ?_
          refine zg_X5_2 hx zw_176 dX5_next_114 ?_
          refine z_iload_n hx 5 dX5_next_117 rfl rfl ?_
          refine z_callV hx (As := [.ref (E.2.2.2 49), .int (nI n)]) (st := []) (k_X1_solvesWith hI (zputI N (49 + 1) n (nI (zcn k w))) (t := n) (B := zGm (w, n, mm, cd, rd) d zall) zRoom_49 hRk (by omega) d (zskI (by omega) hN3) (zskI (by omega) hN5) hNs hTw) zw_468 zy_X1_solvesWith ⟨rfl, rfl⟩ (by decide) (zOB_X1 E) rfl rfl rfl rfl (Nat.le_of_ble_eq_true rfl) dX5_next_118 ?_
          rintro _ M118 ⟨v118, rfl, q118⟩
          have qs118 := q118
          obtain ⟨q118, -⟩ := q118
          rcases q118 with ⟨rfl, q118⟩ | ⟨rfl, q118⟩
          · skip
            show zJ E x 121 _ [.int (nI 1)] _
            have hth2 := hth5 q118.1
            have etot : zS w (fun i => zMin (zGm (zmore (w, n, mm, cd, rd) (zcn k w)) d zall) (zunk w d) i) = zS w (fun k => -T (zunk w d) k k) := zS_cong (fun i hi => by
              have h : T (zunk w d) i i = -zMin (zGm (zmore (w, n, mm, cd, rd) (zcn k w)) d zall) (zunk w d) i := (hth2.2.2 i (by show i < zunk w d; omega)).2.2.1
              rw [h, Int.neg_neg])
            have hq : zqn (w, n, mm, cd, rd) d k = some (zS w (fun k => -T (zunk w d) k k), D (zunk w d)) := by
              have e : zqn (w, n, mm, cd, rd) d k = some (zS w (fun i => zMin (zGm (zmore (w, n, mm, cd, rd) (zcn k w)) d zall) (zunk w d) i), zdet (zunk w d) (zGm (zmore (w, n, mm, cd, rd) (zcn k w)) d zall)) := if_pos (by show 0 < zdet (zunk w d) (zGm (zmore (w, n, mm, cd, rd) (zcn k w)) d zall); rw [← hD1]; exact q118.1)
              rw [e, etot, ← hD1]
            refine z_if_eq_n (tgt := 184) hx (by decide) dX5_next_121 (by decide) (fun h => absurd h (by decide)) (fun _ => ?_)
            refine z_iload hx 3 dX5_next_124 rfl ?_
            refine z_bipush hx (v := (-9)) dX5_next_126 rfl ?_
            refine z_icmp_eq (tgt := 155) hx dX5_next_128 (by decide) (fun h128 => ?_) (fun h128 => ?_)
            · skip
              have hz : zbest (zqn (w, n, mm, cd, rd) d) k = none := (zcb_none hw4.2).mp h128
              refine z_aload_n hx 6 dX5_next_155 rfl rfl ?_
              refine zg_X5_2 hx zw_176 dX5_next_156 ?_
              refine zg_X3_3 hx zRoom_49 zw_89 dX5_next_159 ?_
              refine z_iload_n hx 5 dX5_next_162 rfl rfl ?_
              refine z_iald_n hx (zIA_codes zRoom_49 E) (by omega) dX5_next_163 ?_
              refine z_eqi (b := nI (zcn k w)) (by rw [(qs118.2.2.1 (49 + 1) (by omega)).1]; exact zhtI) ?_
              refine z_istore hx (lv2 := [(4, .int (nI (zcn k w))), (9, .int (nI k)), (7, .long (Int64.ofInt (zbb (zbest (zqn (w, n, mm, cd, rd) d) k)))), (5, .long (Int64.ofInt (zba (zbest (zqn (w, n, mm, cd, rd) d) k)))), (3, .int (nI (3 ^ w))), (2, .int (nI n)), (0, .ref (E.2.2.2 0)), (1, .int (zdr d))]) dX5_next_164 (by decide) rfl ?_
              refine z_aload_n hx 6 dX5_next_166 rfl rfl ?_
              refine zg_X5_6 hx zw_180 dX5_next_167 ?_
              refine z_callV hx (As := []) (st := []) (k_X1_totalAbove hI M118 (w := w) (T := T (zunk w d)) (by rw [qs118.2.1]; exact zskI (by omega) hN4) hu huw q118.2.2) zw_434 zy_X1_totalAbove ⟨rfl, rfl⟩ (by decide) (zOB_X1 E) rfl rfl rfl rfl (Nat.le_of_ble_eq_true rfl) dX5_next_170 ?_
              rintro _ M170 ⟨v170, rfl, q170⟩
              obtain ⟨rfl, q170⟩ := q170
              rw [q170]
              show zJ E x 173 _ [.long (Int64.ofInt (zS w (fun k => -T (zunk w d) k k)))] _
              refine z_lstore hx (lv2 := [(5, .long (Int64.ofInt (zS w (fun k => -T (zunk w d) k k)))), (4, .int (nI (zcn k w))), (9, .int (nI k)), (7, .long (Int64.ofInt (zbb (zbest (zqn (w, n, mm, cd, rd) d) k)))), (3, .int (nI (3 ^ w))), (2, .int (nI n)), (0, .ref (E.2.2.2 0)), (1, .int (zdr d))]) dX5_next_173 (by decide) rfl ?_
              refine z_aload_n hx 6 dX5_next_175 rfl rfl ?_
              refine zg_X5_6 hx zw_180 dX5_next_176 ?_
              refine zg_X1_6 hx zw_138 dX5_next_179 ?_
              refine z_eql (b := Int64.ofInt (D (zunk w d))) q118.2.1 ?_
              refine z_lstore hx (lv2 := [(7, .long (Int64.ofInt (D (zunk w d)))), (5, .long (Int64.ofInt (zS w (fun k => -T (zunk w d) k k)))), (4, .int (nI (zcn k w))), (9, .int (nI k)), (3, .int (nI (3 ^ w))), (2, .int (nI n)), (0, .ref (E.2.2.2 0)), (1, .int (zdr d))]) dX5_next_182 (by decide) rfl ?_
              refine z_iinc hx (w := nI (k + 1)) (lv2 := [(9, .int (nI (k + 1))), (7, .long (Int64.ofInt (D (zunk w d)))), (5, .long (Int64.ofInt (zS w (fun k => -T (zunk w d) k k)))), (4, .int (nI (zcn k w))), (3, .int (nI (3 ^ w))), (2, .int (nI n)), (0, .ref (E.2.2.2 0)), (1, .int (zdr d))]) 3 dX5_next_184 rfl (z_inc _) (by decide) rfl ?_
              refine z_goto (tgt := 82) hx dX5_next_187 (by decide) ?_
              exact z_to (ih82 (k + 1) M118 (by omega) (zfr_tr hNf (zfr_tr (zfr_putI (by omega)) (zfr_w qs118.2.2.1 (fun c h => by omega)))) (by rw [qs118.2.1]; exact zskI (by omega) hN3) (by rw [qs118.2.1]; exact zskI (by omega) hN4) (by rw [qs118.2.1]; exact zskI (by omega) hN5) ⟨zcn k w, zRm_fr hRk qs118.2.2.1 (by omega) (by omega) (by omega)⟩ (fun p q z1 z2 => by rw [qs118.2.2.2 p q z1 z2]; exact hNs p q z1 z2) (by omega)) [0, 1, 2, 3, 4, 5, 6, 7] (by rw [zbest_first hq hz]; rfl) rfl
            · skip
              obtain ⟨⟨i, x0, y0⟩, hz⟩ : ∃ o, zbest (zqn (w, n, mm, cd, rd) d) k = some o := by
                cases hz : zbest (zqn (w, n, mm, cd, rd) d) k with
                | none => exact absurd (by rw [hz]; rfl) h128
                | some o => exact ⟨o, rfl⟩
              obtain ⟨hi1, hi2⟩ := zbest_mem hz
              obtain ⟨hx1, hy1, hy2⟩ := zqt_some hth (zVr_more (zHr_v hH) (zcn_code i w) (by show n < 8; omega)) hi2
              have hba : zba (zbest (zqn (w, n, mm, cd, rd) d) k) = x0 := by rw [hz]; rfl
              have hbb : zbb (zbest (zqn (w, n, mm, cd, rd) d) k) = y0 := by rw [hz]; rfl
              obtain ⟨hx3, -, -⟩ := zqt_some hth (zVr_more (zHr_v hH) (zcn_code k w) (by show n < 8; omega)) hq
              refine z_aload_n hx 6 dX5_next_131 rfl rfl ?_
              refine zg_X5_6 hx zw_180 dX5_next_132 ?_
              refine z_callV hx (As := []) (st := []) (k_X1_totalAbove hI M118 (w := w) (T := T (zunk w d)) (by rw [qs118.2.1]; exact zskI (by omega) hN4) hu huw q118.2.2) zw_434 zy_X1_totalAbove ⟨rfl, rfl⟩ (by decide) (zOB_X1 E) rfl rfl rfl rfl (Nat.le_of_ble_eq_true rfl) dX5_next_135 ?_
              rintro _ M135 ⟨v135, rfl, q135⟩
              obtain ⟨rfl, q135⟩ := q135
              rw [q135]
              show zJ E x 138 _ [.long (Int64.ofInt (zS w (fun k => -T (zunk w d) k k)))] _
              refine z_aload_n hx 6 dX5_next_138 rfl rfl ?_
              refine zg_X5_6 hx zw_180 dX5_next_139 ?_
              refine zg_X1_6 hx zw_138 dX5_next_142 ?_
              refine z_eql (b := Int64.ofInt (D (zunk w d))) q118.2.1 ?_
              refine z_lload hx 2 dX5_next_145 rfl ?_
              refine z_lload hx 1 dX5_next_147 rfl ?_
              refine z_callS hx (As := [.long (Int64.ofInt (zS w (fun k => -T (zunk w d) k k))), .long (Int64.ofInt (D (zunk w d))), .long (Int64.ofInt (zba (zbest (zqn (w, n, mm, cd, rd) d) k))), .long (Int64.ofInt (zbb (zbest (zqn (w, n, mm, cd, rd) d) k)))]) (st := []) (k_X5_isLess hI M118 (Int64.ofInt (zS w (fun k => -T (zunk w d) k k))) (Int64.ofInt (D (zunk w d))) (Int64.ofInt (zba (zbest (zqn (w, n, mm, cd, rd) d) k))) (Int64.ofInt (zbb (zbest (zqn (w, n, mm, cd, rd) d) k)))) zw_472 zy_X5_isLess ⟨rfl, rfl⟩ (by decide) rfl rfl (Nat.le_of_ble_eq_true rfl) dX5_next_149 ?_
              rintro _ M149 ⟨v149, rfl, q149⟩
              obtain ⟨q149, q149m⟩ := q149
              rw [q149m]
              rcases q149 with ⟨q149, rfl⟩ | ⟨q149, rfl⟩
              · skip
                show zJ E x 152 _ [.int (nI 1)] _
                have hlt := q149
                rw [hba, hbb, zI64_mul, zI64_mul, zlt64 (zab_rg (zab_mul2 (by decide) (by decide) hx3 (show zab y0 600000 by unfold zab; omega)) (by decide)) (zab_rg (zab_mul2 (by decide) (by decide) hx1 (show zab (D (zunk w d)) 600000 by unfold zab; omega)) (by decide))] at hlt
                refine z_if_eq_n (tgt := 184) hx (by decide) dX5_next_152 (by decide) (fun h => absurd h (by decide)) (fun _ => ?_)
                refine z_aload_n hx 6 dX5_next_155 rfl rfl ?_
                refine zg_X5_2 hx zw_176 dX5_next_156 ?_
                refine zg_X3_3 hx zRoom_49 zw_89 dX5_next_159 ?_
                refine z_iload_n hx 5 dX5_next_162 rfl rfl ?_
                refine z_iald_n hx (zIA_codes zRoom_49 E) (by omega) dX5_next_163 ?_
                refine z_eqi (b := nI (zcn k w)) (by rw [(qs118.2.2.1 (49 + 1) (by omega)).1]; exact zhtI) ?_
                refine z_istore hx (lv2 := [(4, .int (nI (zcn k w))), (9, .int (nI k)), (7, .long (Int64.ofInt (zbb (zbest (zqn (w, n, mm, cd, rd) d) k)))), (5, .long (Int64.ofInt (zba (zbest (zqn (w, n, mm, cd, rd) d) k)))), (3, .int (nI (3 ^ w))), (2, .int (nI n)), (0, .ref (E.2.2.2 0)), (1, .int (zdr d))]) dX5_next_164 (by decide) rfl ?_
                refine z_aload_n hx 6 dX5_next_166 rfl rfl ?_
                refine zg_X5_6 hx zw_180 dX5_next_167 ?_
                refine z_callV hx (As := []) (st := []) (k_X1_totalAbove hI M118 (w := w) (T := T (zunk w d)) (by rw [qs118.2.1]; exact zskI (by omega) hN4) hu huw q118.2.2) zw_434 zy_X1_totalAbove ⟨rfl, rfl⟩ (by decide) (zOB_X1 E) rfl rfl rfl rfl (Nat.le_of_ble_eq_true rfl) dX5_next_170 ?_
                rintro _ M170 ⟨v170, rfl, q170⟩
                obtain ⟨rfl, q170⟩ := q170
                rw [q170]
                show zJ E x 173 _ [.long (Int64.ofInt (zS w (fun k => -T (zunk w d) k k)))] _
                refine z_lstore hx (lv2 := [(5, .long (Int64.ofInt (zS w (fun k => -T (zunk w d) k k)))), (4, .int (nI (zcn k w))), (9, .int (nI k)), (7, .long (Int64.ofInt (zbb (zbest (zqn (w, n, mm, cd, rd) d) k)))), (3, .int (nI (3 ^ w))), (2, .int (nI n)), (0, .ref (E.2.2.2 0)), (1, .int (zdr d))]) dX5_next_173 (by decide) rfl ?_
                refine z_aload_n hx 6 dX5_next_175 rfl rfl ?_
                refine zg_X5_6 hx zw_180 dX5_next_176 ?_
                refine zg_X1_6 hx zw_138 dX5_next_179 ?_
                refine z_eql (b := Int64.ofInt (D (zunk w d))) q118.2.1 ?_
                refine z_lstore hx (lv2 := [(7, .long (Int64.ofInt (D (zunk w d)))), (5, .long (Int64.ofInt (zS w (fun k => -T (zunk w d) k k)))), (4, .int (nI (zcn k w))), (9, .int (nI k)), (3, .int (nI (3 ^ w))), (2, .int (nI n)), (0, .ref (E.2.2.2 0)), (1, .int (zdr d))]) dX5_next_182 (by decide) rfl ?_
                refine z_iinc hx (w := nI (k + 1)) (lv2 := [(9, .int (nI (k + 1))), (7, .long (Int64.ofInt (D (zunk w d)))), (5, .long (Int64.ofInt (zS w (fun k => -T (zunk w d) k k)))), (4, .int (nI (zcn k w))), (3, .int (nI (3 ^ w))), (2, .int (nI n)), (0, .ref (E.2.2.2 0)), (1, .int (zdr d))]) 3 dX5_next_184 rfl (z_inc _) (by decide) rfl ?_
                refine z_goto (tgt := 82) hx dX5_next_187 (by decide) ?_
                exact z_to (ih82 (k + 1) M118 (by omega) (zfr_tr hNf (zfr_tr (zfr_putI (by omega)) (zfr_w qs118.2.2.1 (fun c h => by omega)))) (by rw [qs118.2.1]; exact zskI (by omega) hN3) (by rw [qs118.2.1]; exact zskI (by omega) hN4) (by rw [qs118.2.1]; exact zskI (by omega) hN5) ⟨zcn k w, zRm_fr hRk qs118.2.2.1 (by omega) (by omega) (by omega)⟩ (fun p q z1 z2 => by rw [qs118.2.2.2 p q z1 z2]; exact hNs p q z1 z2) (by omega)) [0, 1, 2, 3, 4, 5, 6, 7] (by rw [zbest_yes hq hz hlt]; rfl) rfl
              · skip
                show zJ E x 152 _ [.int (nI 0)] _
                have hlt := q149
                rw [hba, hbb, zI64_mul, zI64_mul, zlt64 (zab_rg (zab_mul2 (by decide) (by decide) hx3 (show zab y0 600000 by unfold zab; omega)) (by decide)) (zab_rg (zab_mul2 (by decide) (by decide) hx1 (show zab (D (zunk w d)) 600000 by unfold zab; omega)) (by decide))] at hlt
                refine z_if_eq_n (tgt := 184) hx (by decide) dX5_next_152 (by decide) (fun _ => ?_) (fun h => absurd h (by decide))
                refine z_iinc hx (w := nI (k + 1)) (lv2 := [(9, .int (nI (k + 1))), (7, .long (Int64.ofInt (zbb (zbest (zqn (w, n, mm, cd, rd) d) k)))), (5, .long (Int64.ofInt (zba (zbest (zqn (w, n, mm, cd, rd) d) k)))), (4, .int (zcb w (zbest (zqn (w, n, mm, cd, rd) d) k))), (3, .int (nI (3 ^ w))), (2, .int (nI n)), (0, .ref (E.2.2.2 0)), (1, .int (zdr d))]) 0 dX5_next_184 rfl (z_inc _) (by decide) rfl ?_
                refine z_goto (tgt := 82) hx dX5_next_187 (by decide) ?_
                exact z_to (ih82 (k + 1) M118 (by omega) (zfr_tr hNf (zfr_tr (zfr_putI (by omega)) (zfr_w qs118.2.2.1 (fun c h => by omega)))) (by rw [qs118.2.1]; exact zskI (by omega) hN3) (by rw [qs118.2.1]; exact zskI (by omega) hN4) (by rw [qs118.2.1]; exact zskI (by omega) hN5) ⟨zcn k w, zRm_fr hRk qs118.2.2.1 (by omega) (by omega) (by omega)⟩ (fun p q z1 z2 => by rw [qs118.2.2.2 p q z1 z2]; exact hNs p q z1 z2) (by omega)) [0, 1, 2, 3, 4, 5, 6, 7] (by rw [Eq.trans (zbest_nay hq hz hlt) (Eq.symm hz)]; rfl) rfl
          · skip
            show zJ E x 121 _ [.int (nI 0)] _
            have hq : zqn (w, n, mm, cd, rd) d k = none := if_neg (by show ¬ 0 < zdet (zunk w d) (zGm (zmore (w, n, mm, cd, rd) (zcn k w)) d zall); rw [← hD1]; have := q118; omega)
            refine z_if_eq_n (tgt := 184) hx (by decide) dX5_next_121 (by decide) (fun _ => ?_) (fun h => absurd h (by decide))
            refine z_iinc hx (w := nI (k + 1)) (lv2 := [(9, .int (nI (k + 1))), (7, .long (Int64.ofInt (zbb (zbest (zqn (w, n, mm, cd, rd) d) k)))), (5, .long (Int64.ofInt (zba (zbest (zqn (w, n, mm, cd, rd) d) k)))), (4, .int (zcb w (zbest (zqn (w, n, mm, cd, rd) d) k))), (3, .int (nI (3 ^ w))), (2, .int (nI n)), (0, .ref (E.2.2.2 0)), (1, .int (zdr d))]) 0 dX5_next_184 rfl (z_inc _) (by decide) rfl ?_
            refine z_goto (tgt := 82) hx dX5_next_187 (by decide) ?_
            exact z_to (ih82 (k + 1) M118 (by omega) (zfr_tr hNf (zfr_tr (zfr_putI (by omega)) (zfr_w qs118.2.2.1 (fun c h => by omega)))) (by rw [qs118.2.1]; exact zskI (by omega) hN3) (by rw [qs118.2.1]; exact zskI (by omega) hN4) (by rw [qs118.2.1]; exact zskI (by omega) hN5) ⟨zcn k w, zRm_fr hRk qs118.2.2.1 (by omega) (by omega) (by omega)⟩ (fun p q z1 z2 => by rw [qs118.2.2.2 p q z1 z2]; exact hNs p q z1 z2) (by omega)) [0, 1, 2, 3, 4, 5, 6, 7] (by rw [zbest_no hq]; rfl) rfl
    exact z_to (loop82 _ 0 M76 (Nat.zero_le _) (zfr_tr (zfr_tr (zfr_w q23.2.2 (fun c h => by omega)) (zfr_tr (zfr_tr (zfr_putI (by omega)) (zfr_putI (by omega))) (zfr_putI (by omega)))) (zfr_w q76.2.2.2.1 (fun c h => by omega))) q76.1 q76.2.1 q76.2.2.1 ⟨0, zRm_fr hRt q76.2.2.2.1 (by omega) (by omega) (by omega)⟩ (fun p q z1 z2 => by rw [q76.2.2.2.2 p q z1 z2]; exact congrArg Int64.ofInt (Eq.symm (zGr_all _ _ _ _ _ _ _ _))) (Nat.lt_succ_self _)) [0, 1, 2, 3, 4, 5, 6, 7] rfl rfl
  · skip
    refine z_bipush hx (v := (-4)) dX5_next_12 rfl ?_
    exact ri _ _ _ _ rfl ⟨_, rfl, ⟨by rw [zop_next, if_pos h9], hσ2, zfr_rf _ _⟩⟩ dX5_next_14
