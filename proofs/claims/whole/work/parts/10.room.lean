theorem zsg_p (p : Nat) : nI p = Int32.ofInt (p : Int) := rfl
def zshf (g : Nat → Int32) (j t : Nat) : Nat → Int32 := fun k => if j ≤ k ∧ k < t then g (k + 1) else g k
theorem zshf_0 (g : Nat → Int32) (j : Nat) : zshf g j j = g := by
  funext k
  unfold zshf
  rw [if_neg (by omega)]
theorem zshf_s (g : Nat → Int32) {j t : Nat} (h : j ≤ t) : upd (zshf g j t) t (zshf g j t (t + 1)) = zshf g j (t + 1) := by
  funext k
  unfold zshf upd
  by_cases e : k = t
  · subst e
    rw [if_pos rfl, if_neg (by omega), if_pos (by omega)]
  · rw [if_neg e]
    show (if j ≤ k ∧ k < t then g (k + 1) else g k) = _
    by_cases q : j ≤ k ∧ k < t
    · rw [if_pos q, if_pos (by omega)]
    · rw [if_neg q, if_neg (by omega)]
theorem zps2 {M : zM} {c1 c2 k1 k2 : Nat} {g1 g2 : Nat → Int32} {v1 v2 : Int32} (h : ¬ c1 = c2) : zputI (zputI (zsetI (zsetI M c1 g1) c2 g2) c1 k1 v1) c2 k2 v2 = zsetI (zsetI M c1 (upd g1 k1 v1)) c2 (upd g2 k2 v2) := by
  refine Prod.ext ?_ rfl
  funext i
  simp only [zputI, zsetI, va_up]
  by_cases e1 : i = c1
  · subst e1
    simp [h]
  · by_cases e2 : i = c2
    · subst e2
      have h2 : ¬ i = c1 := e1
      simp [h2]
    · simp [e1, e2]
def zdn : Nat → Int32
  | 0 => -1
  | i + 1 => nI i
theorem zdn_dec (i : Nat) : nI i + Int32.ofInt (-1) = zdn i := by
  cases i with
  | zero => decide +kernel
  | succ i => exact pk_m1 i
theorem zdn_w {w : Nat} (h : 1 ≤ w) : zdn w = nI (w - 1) := by
  cases w with
  | zero => omega
  | succ i => rfl
def zlo (g : Nat → Int64) (w c i : Nat) : Nat → Int64 := fun k => if i ≤ k ∧ k < w then Int64.ofInt (zsgd (zdig c w k)) else g k
theorem zlo_w (g : Nat → Int64) (w c : Nat) : zlo g w c w = g := by
  funext k
  unfold zlo
  rw [if_neg (by omega)]
theorem zsg_wide (p : Nat) (h : p < 100) : (Int32.ofInt (zsgd p)).toInt64 = Int64.ofInt (zsgd p) := by
  unfold zsgd
  split
  · decide +kernel
  · show (nI p).toInt64 = lN p
    exact nI_l (by omega)
theorem zlo_s {g : Nat → Int64} {w c i : Nat} (h : i + 1 ≤ w) : vp_updL (zlo g w c (i + 1)) i (Int32.ofInt (zsgd (c / 10 ^ (w - (i + 1)) % 10))).toInt64 = zlo g w c i := by
  funext k
  unfold zlo vp_updL
  by_cases e : k = i
  · subst e
    rw [if_pos rfl, if_pos (by omega), zsg_wide _ (by omega)]
    unfold zdig
    rw [show w - (k + 1) = w - 1 - k by omega]
  · rw [if_neg e]
    show (if i + 1 ≤ k ∧ k < w then Int64.ofInt (zsgd (zdig c w k)) else g k) = _
    by_cases q : i ≤ k ∧ k < w
    · rw [if_pos q, if_pos (by omega)]
    · rw [if_neg q, if_neg (by omega)]
theorem zdiv10 {w c i : Nat} (h : i + 1 ≤ w) : c / 10 ^ (w - (i + 1)) / 10 = c / 10 ^ (w - i) := by
  rw [Nat.div_div_eq_div_mul, ← Nat.pow_succ, show (w - (i + 1)).succ = w - i by omega]
theorem zi32 {z : Int} (h1 : -2147483648 ≤ z) (h2 : z ≤ 2147483647) : (Int32.ofInt z).toInt64 = Int64.ofInt z := by
  apply Int64.toInt_inj.mp
  rw [Int32.toInt_toInt64, Int32.toInt_ofInt_of_le (by omega) (by omega), Int64.toInt_ofInt_of_le (by omega) (by omega)]
theorem zlast {w mm c : Nat} {r : Int} (hcw : zcode w c) (hr1 : -1000 ≤ r) (hr2 : r ≤ 1000) (hmm : mm ≤ 99) : (Int32.ofInt r - Int32.ofInt (zsgd (c / 10 ^ w)) * nI mm).toInt64 = Int64.ofInt (r - zsgd (c / 10 ^ w) * mm) := by
  have hd : c / 10 ^ w ≤ 2 := by
    have h := hcw.2 w (Nat.le_refl _)
    have h2 : c / 10 ^ w < 10 := by
      have := hcw.1
      rw [Nat.pow_succ, Nat.mul_comm] at this
      exact Nat.div_lt_of_lt_mul (by rw [Nat.mul_comm]; exact this)
    omega
  have e : Int32.ofInt r - Int32.ofInt (zsgd (c / 10 ^ w)) * nI mm = Int32.ofInt (r - zsgd (c / 10 ^ w) * mm) := by
    rw [Int32.ofInt_sub, Int32.ofInt_mul]
    rfl
  rw [e]
  have hs : zsgd (c / 10 ^ w) = -1 ∨ zsgd (c / 10 ^ w) = 0 ∨ zsgd (c / 10 ^ w) = 1 := by
    generalize c / 10 ^ w = q at hd
    unfold zsgd
    rcases (show q = 0 ∨ q = 1 ∨ q = 2 by omega) with rfl | rfl | rfl <;> simp
  apply zi32
  · rcases hs with h | h | h <;> rw [h] <;> omega
  · rcases hs with h | h | h <;> rw [h] <;> omega
theorem zlay_f {M : zM} {d : Bool} {w mm c t ln : Nat} {r : Int} (hd : d = false) (h4 : w ≤ 4) (hcw : zcode w c) (hr1 : -1000 ≤ r) (hr2 : r ≤ 1000) (hmm : mm ≤ 99) : zputJ (zsetJ M ln (zlo (M.2 ln) w c 0)) ln (zunk w d) (Int32.ofInt r - Int32.ofInt (zsgd (c / 10 ^ (w - 0))) * nI mm).toInt64 = zsetJ M ln (fun i => if i ≤ zunk w d then Int64.ofInt (zLn w mm d c r t i) else M.2 ln i) := by
  subst hd
  rw [zputJ_set, Nat.sub_zero, zlast hcw hr1 hr2 hmm]
  congr 1
  funext k
  unfold vp_updL zlo zLn zunk
  simp only [Bool.false_eq_true, if_false, false_and]
  by_cases e : k = w
  · subst e
    simp
  · by_cases q : k < w
    · simp [e, q, Nat.le_of_lt q]
    · have q2 : ¬ k ≤ w := by omega
      simp [e, q, q2]
theorem zlay_t {M : zM} {d : Bool} {w mm c t ln : Nat} {r : Int} (hd : d = true) (h4 : w ≤ 4) (hcw : zcode w c) (hr1 : -1000 ≤ r) (hr2 : r ≤ 1000) (hmm : mm ≤ 99) (ht : t < 8) : zputJ (zputJ (zsetJ M ln (zlo (M.2 ln) w c 0)) ln w (nI t).toInt64) ln (zunk w d) (Int32.ofInt r - Int32.ofInt (zsgd (c / 10 ^ (w - 0))) * nI mm).toInt64 = zsetJ M ln (fun i => if i ≤ zunk w d then Int64.ofInt (zLn w mm d c r t i) else M.2 ln i) := by
  subst hd
  rw [zputJ_set, zputJ_set, Nat.sub_zero, zlast hcw hr1 hr2 hmm, nI_l (by omega)]
  congr 1
  funext k
  unfold vp_updL zlo zLn zunk
  simp only [if_true, true_and]
  by_cases e : k = w + 1
  · subst e
    have q1 : ¬ w + 1 < w := by omega
    simp [q1]
  · by_cases e2 : k = w
    · subst e2
      simp
      rfl
    · by_cases q : k < w
      · have q2 : k ≤ w + 1 := by omega
        simp [e, e2, q, q2]
      · have q2 : ¬ k ≤ w + 1 := by omega
        simp [e, e2, q, q2]
theorem zunk_le {w : Nat} (h : w ≤ 4) (d : Bool) : zunk w d ≤ 5 := by unfold zunk; split <;> omega
theorem zRoom_apart {a b : Nat} (ha : zRoom a) (hb : zRoom b) (h : ¬ a = b) : a + 3 ≤ b ∨ b + 3 ≤ a := by
  obtain ⟨k, h1, h2⟩ := ha
  obtain ⟨j, h3, h4⟩ := hb
  omega
set_option maxHeartbeats 4000000 in
set_option maxRecDepth 100000 in
theorem k_X3_signOf {E : zE} (hI : zI E) (M : zM) (p : Nat) (hp : p < 2 ^ 31) : zK E yX3_signOf (.code yX3_signOf cX3_signOf 1 (some .int)) (zrm 0 0) [.int (nI p)] M (zpi (fun v M2 => v = Int32.ofInt (zsgd p) ∧ M2 = M)) := by
  refine zK_of hI (by decide) (Nat.le_of_ble_eq_true rfl) (fun x hx ri rz rl rv => ?_)
  show zJ E x 0 [(0, .int (nI p))] [] M
  refine z_iload_n hx 0 dX3_signOf_0 rfl rfl ?_
  refine z_iconst hx (v := nI 2) dX3_signOf_1 (by decide +kernel) ?_
  refine z_icmp_ne_n (tgt := 9) hx (by omega) (by omega) dX3_signOf_2 (by decide) (fun h2 => ?_) (fun h2 => ?_)
  · skip
    refine z_iload_n hx 0 dX3_signOf_9 rfl rfl ?_
    exact ri _ _ _ _ rfl ⟨_, rfl, ⟨by rw [zsgd, if_neg (by omega)]; exact zsg_p _, rfl⟩⟩ dX3_signOf_10
  · skip
    refine z_iconst hx (v := (-1)) dX3_signOf_5 rfl ?_
    refine z_goto (tgt := 10) hx dX3_signOf_6 (by decide) ?_
    exact ri _ _ _ _ rfl ⟨_, rfl, ⟨by rw [zsgd, if_pos (by omega)]; rfl, rfl⟩⟩ dX3_signOf_10
set_option maxHeartbeats 4000000 in
set_option maxRecDepth 100000 in
theorem k_X3_unknowns {E : zE} (hI : zI E) (M : zM) {a w : Nat} (ha : zRoom a) (hw : M.1 a 0 = nI w) (d : Bool) : zK E yX3_unknowns (.code yX3_unknowns cX3_unknowns 2 (some .int)) (zrm 0 0) [.ref (E.2.2.2 a), .int (zdr d)] M (zpi (fun v M2 => v = nI (zunk w d) ∧ M2 = M)) := by
  refine zK_of hI (by decide) (Nat.le_of_ble_eq_true rfl) (fun x hx ri rz rl rv => ?_)
  show zJ E x 0 [(0, .ref (E.2.2.2 a)), (1, .int (zdr d))] [] M
  refine z_iload_n hx 1 dX3_unknowns_0 rfl rfl ?_
  refine z_if_eq_d (tgt := 13) hx dX3_unknowns_1 (by decide) (fun h1 => ?_) (fun h1 => ?_)
  · skip
    refine z_aload_n hx 0 dX3_unknowns_13 rfl rfl ?_
    refine zg_X3_0 hx ha zw_79 dX3_unknowns_14 ?_
    refine z_eqi hw ?_
    exact ri _ _ _ _ rfl ⟨_, rfl, ⟨by simp [zunk, *], rfl⟩⟩ dX3_unknowns_17
  · skip
    refine z_aload_n hx 0 dX3_unknowns_4 rfl rfl ?_
    refine zg_X3_0 hx ha zw_79 dX3_unknowns_5 ?_
    refine z_eqi hw ?_
    refine z_iconst hx (v := nI 1) dX3_unknowns_8 (by decide +kernel) ?_
    refine z_iadd_n hx dX3_unknowns_9 ?_
    refine z_goto (tgt := 17) hx dX3_unknowns_10 (by decide) ?_
    exact ri _ _ _ _ rfl ⟨_, rfl, ⟨by simp [zunk, *], rfl⟩⟩ dX3_unknowns_17
set_option maxHeartbeats 4000000 in
set_option maxRecDepth 100000 in
theorem k_X3_has {E : zE} (hI : zI E) (M : zM) {a n : Nat} (ha : zRoom a) (hn : M.1 a 2 = nI n) (h8 : n ≤ 8) (t : Int32) : zK E yX3_has (.code yX3_has cX3_has 2 (some .boolean)) (zrm 0 0) [.ref (E.2.2.2 a), .int t] M (zpi (fun v M2 => ((∃ j : Nat, j < n ∧ t = nI j ∧ v = nI 1) ∨ ((t < 0 ∨ nI n ≤ t) ∧ v = nI 0)) ∧ M2 = M)) := by
  refine zK_of hI (by decide) (Nat.le_of_ble_eq_true rfl) (fun x hx ri rz rl rv => ?_)
  show zJ E x 0 [(0, .ref (E.2.2.2 a)), (1, .int t)] [] M
  refine z_iload_n hx 1 dX3_has_0 rfl rfl ?_
  refine z_if_lt (tgt := 16) hx dX3_has_1 (by decide) (fun h1 => ?_) (fun h1 => ?_)
  · skip
    refine z_iconst hx (v := nI 0) dX3_has_16 (by decide +kernel) ?_
    exact rz _ _ _ _ rfl (Or.inl rfl) ⟨_, rfl, ⟨Or.inr ⟨by first | exact Or.inl h1 | exact Or.inr h9, rfl⟩, rfl⟩⟩ dX3_has_17
  · skip
    refine z_iload_n hx 1 dX3_has_4 rfl rfl ?_
    refine z_aload_n hx 0 dX3_has_5 rfl rfl ?_
    refine zg_X3_2 hx ha zw_84 dX3_has_6 ?_
    refine z_eqi hn ?_
    refine z_icmp_ge (tgt := 16) hx dX3_has_9 (by decide) (fun h9 => ?_) (fun h9 => ?_)
    · skip
      refine z_iconst hx (v := nI 0) dX3_has_16 (by decide +kernel) ?_
      exact rz _ _ _ _ rfl (Or.inl rfl) ⟨_, rfl, ⟨Or.inr ⟨by first | exact Or.inl h1 | exact Or.inr h9, rfl⟩, rfl⟩⟩ dX3_has_17
    · skip
      refine z_iconst hx (v := nI 1) dX3_has_12 (by decide +kernel) ?_
      refine z_goto (tgt := 17) hx dX3_has_13 (by decide) ?_
      exact rz _ _ _ _ rfl (Or.inr rfl) ⟨_, rfl, ⟨Or.inl (by obtain ⟨j, hj, e⟩ := zix (by omega) h1 h9; exact ⟨j, hj, e, rfl⟩), rfl⟩⟩ dX3_has_17
set_option maxHeartbeats 4000000 in
set_option maxRecDepth 100000 in
theorem k_X3_hasUnknown {E : zE} (hI : zI E) (M : zM) {a w : Nat} (ha : zRoom a) (hw : M.1 a 0 = nI w) (h4 : w ≤ 4) (t : Int32) (d : Bool) : zK E yX3_hasUnknown (.code yX3_hasUnknown cX3_hasUnknown 3 (some .boolean)) (zrm 1 21) [.ref (E.2.2.2 a), .int t, .int (zdr d)] M (zpi (fun v M2 => ((∃ j : Nat, j < zunk w d ∧ t = nI j ∧ v = nI 1) ∨ ((t < 0 ∨ nI (zunk w d) ≤ t) ∧ v = nI 0)) ∧ M2 = M)) := by
  refine zK_of hI (by decide) (Nat.le_of_ble_eq_true rfl) (fun x hx ri rz rl rv => ?_)
  show zJ E x 0 [(0, .ref (E.2.2.2 a)), (1, .int t), (2, .int (zdr d))] [] M
  refine z_iload_n hx 1 dX3_hasUnknown_0 rfl rfl ?_
  refine z_if_lt (tgt := 17) hx dX3_hasUnknown_1 (by decide) (fun h1 => ?_) (fun h1 => ?_)
  · skip
    refine z_iconst hx (v := nI 0) dX3_hasUnknown_17 (by decide +kernel) ?_
    exact rz _ _ _ _ rfl (Or.inl rfl) ⟨_, rfl, ⟨Or.inr ⟨by first | exact Or.inl h1 | exact Or.inr h10, rfl⟩, rfl⟩⟩ dX3_hasUnknown_18
  · skip
    refine z_iload_n hx 1 dX3_hasUnknown_4 rfl rfl ?_
    refine z_aload_n hx 0 dX3_hasUnknown_5 rfl rfl ?_
    refine z_iload_n hx 2 dX3_hasUnknown_6 rfl rfl ?_
    refine z_callV hx (As := [.int (zdr d)]) (st := [.int t]) (k_X3_unknowns hI M ha hw d) zw_368 zy_X3_unknowns ⟨rfl, rfl⟩ (by decide) (zOB_room ha E) rfl rfl rfl rfl (Nat.le_of_ble_eq_true rfl) dX3_hasUnknown_7 ?_
    rintro _ M7 ⟨v7, rfl, q7⟩
    obtain ⟨rfl, rfl⟩ := q7
    show zJ E x 10 _ [.int (nI (zunk w d)), .int t] _
    refine z_icmp_ge (tgt := 17) hx dX3_hasUnknown_10 (by decide) (fun h10 => ?_) (fun h10 => ?_)
    · skip
      refine z_iconst hx (v := nI 0) dX3_hasUnknown_17 (by decide +kernel) ?_
      exact rz _ _ _ _ rfl (Or.inl rfl) ⟨_, rfl, ⟨Or.inr ⟨by first | exact Or.inl h1 | exact Or.inr h10, rfl⟩, rfl⟩⟩ dX3_hasUnknown_18
    · skip
      refine z_iconst hx (v := nI 1) dX3_hasUnknown_13 (by decide +kernel) ?_
      refine z_goto (tgt := 18) hx dX3_hasUnknown_14 (by decide) ?_
      exact rz _ _ _ _ rfl (Or.inr rfl) ⟨_, rfl, ⟨Or.inl (by obtain ⟨j, hj, e⟩ := zix (by have := zunk_le h4 d; omega) h1 h10; exact ⟨j, hj, e, rfl⟩), rfl⟩⟩ dX3_hasUnknown_18
set_option maxHeartbeats 4000000 in
set_option maxRecDepth 100000 in
theorem k_X3_append {E : zE} (hI : zI E) (M : zM) {a n : Nat} (ha : zRoom a) (hn : M.1 a 2 = nI n) (h8 : n < 8) (c r : Int32) : zK E yX3_append (.code yX3_append cX3_append 3 none) (zrm 0 0) [.ref (E.2.2.2 a), .int c, .int r] M (zpv (fun M2 => M2 = zputI (zputI (zputI M (a + 1) n c) (a + 2) n r) a 2 (nI (n + 1)))) := by
  refine zK_of hI (by decide) (Nat.le_of_ble_eq_true rfl) (fun x hx ri rz rl rv => ?_)
  show zJ E x 0 [(0, .ref (E.2.2.2 a)), (1, .int c), (2, .int r)] [] M
  refine z_aload_n hx 0 dX3_append_0 rfl rfl ?_
  refine zg_X3_2 hx ha zw_84 dX3_append_1 ?_
  refine z_eqi hn ?_
  refine z_bipush hx (v := nI 8) dX3_append_4 (by decide +kernel) ?_
  refine z_icmp_ge_n (tgt := 39) hx (by omega) (by omega) dX3_append_6 (by decide) (fun h6 => ?_) (fun h6 => ?_)
  · skip
    omega
  · skip
    refine z_aload_n hx 0 dX3_append_9 rfl rfl ?_
    refine zg_X3_3 hx ha zw_88 dX3_append_10 ?_
    refine z_aload_n hx 0 dX3_append_13 rfl rfl ?_
    refine zg_X3_2 hx ha zw_84 dX3_append_14 ?_
    refine z_eqi hn ?_
    refine z_iload_n hx 1 dX3_append_17 rfl rfl ?_
    refine z_iast_n hx (zIA_codes ha E) (by omega) dX3_append_18 ?_
    refine z_aload_n hx 0 dX3_append_19 rfl rfl ?_
    refine zg_X3_4 hx ha zw_90 dX3_append_20 ?_
    refine z_aload_n hx 0 dX3_append_23 rfl rfl ?_
    refine zg_X3_2 hx ha zw_84 dX3_append_24 ?_
    refine z_eqi (zskI (by omega) hn) ?_
    refine z_iload_n hx 2 dX3_append_27 rfl rfl ?_
    refine z_iast_n hx (zIA_reads ha E) (by omega) dX3_append_28 ?_
    refine z_aload_n hx 0 dX3_append_29 rfl rfl ?_
    refine z_dup hx dX3_append_30 rfl ?_
    refine zg_X3_2 hx ha zw_84 dX3_append_31 ?_
    refine z_eqi (zskI (by omega) (zskI (by omega) hn)) ?_
    refine z_iconst hx (v := nI 1) dX3_append_34 (by decide +kernel) ?_
    refine z_iadd_n hx dX3_append_35 ?_
    refine zp_X3_2 hx ha zw_84 dX3_append_36 ?_
    exact rv _ _ _ rfl ⟨rfl, rfl⟩ dX3_append_39
set_option maxHeartbeats 4000000 in
set_option maxRecDepth 100000 in
theorem k_X3_exchange {E : zE} (hI : zI E) (M : zM) {a i j : Nat} (ha : zRoom a) (hi : i < 8) (hj : j < 8) (hij : ¬ i = j) : zK E yX3_exchange (.code yX3_exchange cX3_exchange 5 none) (zrm 0 0) [.ref (E.2.2.2 a), .int (nI i), .int (nI j)] M (zpv (fun M2 => M2 = zputI (zputI (zputI (zputI M (a + 1) i (M.1 (a + 1) j)) (a + 2) i (M.1 (a + 2) j)) (a + 1) j (M.1 (a + 1) i)) (a + 2) j (M.1 (a + 2) i))) := by
  refine zK_of hI (by decide) (Nat.le_of_ble_eq_true rfl) (fun x hx ri rz rl rv => ?_)
  show zJ E x 0 [(0, .ref (E.2.2.2 a)), (1, .int (nI i)), (2, .int (nI j))] [] M
  refine z_aload_n hx 0 dX3_exchange_0 rfl rfl ?_
  refine zg_X3_3 hx ha zw_88 dX3_exchange_1 ?_
  refine z_iload_n hx 1 dX3_exchange_4 rfl rfl ?_
  refine z_iald_n hx (zIA_codes ha E) (by omega) dX3_exchange_5 ?_
  refine z_istore_n hx (lv2 := [(3, .int (M.1 (a + 1) i)), (0, .ref (E.2.2.2 a)), (1, .int (nI i)), (2, .int (nI j))]) dX3_exchange_6 rfl (by decide) rfl ?_
  refine z_aload_n hx 1 dX3_exchange_7 rfl rfl ?_
  refine zg_X3_4 hx ha zw_90 dX3_exchange_8 ?_
  refine z_iload_n hx 2 dX3_exchange_11 rfl rfl ?_
  refine z_iald_n hx (zIA_reads ha E) (by omega) dX3_exchange_12 ?_
  refine z_istore hx (lv2 := [(4, .int (M.1 (a + 2) i)), (3, .int (M.1 (a + 1) i)), (0, .ref (E.2.2.2 a)), (1, .int (nI i)), (2, .int (nI j))]) dX3_exchange_13 (by decide) rfl ?_
  refine z_aload_n hx 2 dX3_exchange_15 rfl rfl ?_
  refine zg_X3_3 hx ha zw_88 dX3_exchange_16 ?_
  refine z_iload_n hx 3 dX3_exchange_19 rfl rfl ?_
  refine z_aload_n hx 2 dX3_exchange_20 rfl rfl ?_
  refine zg_X3_3 hx ha zw_88 dX3_exchange_21 ?_
  refine z_iload_n hx 4 dX3_exchange_24 rfl rfl ?_
  refine z_iald_n hx (zIA_codes ha E) (by omega) dX3_exchange_25 ?_
  refine z_iast_n hx (zIA_codes ha E) (by omega) dX3_exchange_26 ?_
  refine z_aload_n hx 2 dX3_exchange_27 rfl rfl ?_
  refine zg_X3_4 hx ha zw_90 dX3_exchange_28 ?_
  refine z_iload_n hx 3 dX3_exchange_31 rfl rfl ?_
  refine z_aload_n hx 2 dX3_exchange_32 rfl rfl ?_
  refine zg_X3_4 hx ha zw_90 dX3_exchange_33 ?_
  refine z_iload_n hx 4 dX3_exchange_36 rfl rfl ?_
  refine z_iald_n hx (zIA_reads ha E) (by omega) dX3_exchange_37 ?_
  refine z_eqi (zskI (by omega) rfl) ?_
  refine z_iast_n hx (zIA_reads ha E) (by omega) dX3_exchange_38 ?_
  refine z_aload_n hx 2 dX3_exchange_39 rfl rfl ?_
  refine zg_X3_3 hx ha zw_88 dX3_exchange_40 ?_
  refine z_iload_n hx 4 dX3_exchange_43 rfl rfl ?_
  refine z_iload_n hx 1 dX3_exchange_44 rfl rfl ?_
  refine z_iast_n hx (zIA_codes ha E) (by omega) dX3_exchange_45 ?_
  refine z_aload_n hx 2 dX3_exchange_46 rfl rfl ?_
  refine zg_X3_4 hx ha zw_90 dX3_exchange_47 ?_
  refine z_iload_n hx 4 dX3_exchange_50 rfl rfl ?_
  refine z_iload hx 0 dX3_exchange_51 rfl ?_
  refine z_iast_n hx (zIA_reads ha E) (by omega) dX3_exchange_53 ?_
  exact rv _ _ _ rfl ⟨rfl, rfl⟩ dX3_exchange_54
set_option maxHeartbeats 4000000 in
set_option maxRecDepth 100000 in
theorem k_X3_copy {E : zE} (hI : zI E) (M : zM) {a b : Nat} (ha : zRoom a) (hb : zRoom b) (hab : ¬ a = b) : zK E yX3_copy (.code yX3_copy cX3_copy 2 none) (zrm 1 26) [.ref (E.2.2.2 a), .ref (E.2.2.2 b)] M (zpv (fun M2 => (∀ k, k < 3 → M2.1 a k = M.1 b k) ∧ (∀ k, k < 8 → M2.1 (a + 1) k = M.1 (b + 1) k ∧ M2.1 (a + 2) k = M.1 (b + 2) k) ∧ zfr (fun c => a ≤ c ∧ c ≤ a + 2) M M2)) := by
  refine zK_of hI (by decide) (Nat.le_of_ble_eq_true rfl) (fun x hx ri rz rl rv => ?_)
  show zJ E x 0 [(0, .ref (E.2.2.2 a)), (1, .ref (E.2.2.2 b))] [] M
  have d1 : ¬ b + 1 = a + 1 := by omega
  have d2 := zRoom_apart ha hb hab
  refine z_aload_n hx 0 dX3_copy_0 rfl rfl ?_
  refine z_aload_n hx 1 dX3_copy_1 rfl rfl ?_
  refine zg_X3_0 hx hb zw_79 dX3_copy_2 ?_
  refine zp_X3_0 hx ha zw_79 dX3_copy_5 ?_
  refine z_aload_n hx 0 dX3_copy_8 rfl rfl ?_
  refine z_aload_n hx 1 dX3_copy_9 rfl rfl ?_
  refine zg_X3_1 hx hb zw_82 dX3_copy_10 ?_
  refine z_eqi (zskI (by omega) rfl) ?_
  refine zp_X3_1 hx ha zw_82 dX3_copy_13 ?_
  refine z_aload_n hx 0 dX3_copy_16 rfl rfl ?_
  refine z_aload_n hx 1 dX3_copy_17 rfl rfl ?_
  refine zg_X3_2 hx hb zw_84 dX3_copy_18 ?_
  refine z_eqi (zskI (by omega) (zskI (by omega) rfl)) ?_
  refine zp_X3_2 hx ha zw_84 dX3_copy_21 ?_
  refine z_aload_n hx 1 dX3_copy_24 rfl rfl ?_
  refine zg_X3_3 hx hb zw_88 dX3_copy_25 ?_
  refine z_iconst hx (v := nI 0) dX3_copy_28 (by decide +kernel) ?_
  refine z_aload_n hx 0 dX3_copy_29 rfl rfl ?_
  refine zg_X3_3 hx ha zw_88 dX3_copy_30 ?_
  refine z_iconst hx (v := nI 0) dX3_copy_33 (by decide +kernel) ?_
  refine z_bipush hx (v := nI 8) dX3_copy_34 (by decide +kernel) ?_
  refine z_copyi hx (c0 := b + 1) (c1 := a + 1) (zIA_codes hb E).1 (zIA_codes ha E).1 ((zIA_codes hb E).2.2 _ _) (fun g => (zIA_codes ha E).2.2 g _) zw_306 (by decide +kernel) (by decide +kernel) (by decide +kernel) (by decide +kernel) (by decide +kernel) (by decide) (by decide) dX3_copy_36 ?_
  refine z_aload_n hx 1 dX3_copy_39 rfl rfl ?_
  refine zg_X3_4 hx hb zw_90 dX3_copy_40 ?_
  refine z_iconst hx (v := nI 0) dX3_copy_43 (by decide +kernel) ?_
  refine z_aload_n hx 0 dX3_copy_44 rfl rfl ?_
  refine zg_X3_4 hx ha zw_90 dX3_copy_45 ?_
  refine z_iconst hx (v := nI 0) dX3_copy_48 (by decide +kernel) ?_
  refine z_bipush hx (v := nI 8) dX3_copy_49 (by decide +kernel) ?_
  refine z_copyi hx (c0 := b + 2) (c1 := a + 2) (zIA_reads hb E).1 (zIA_reads ha E).1 ((zIA_reads hb E).2.2 _ _) (fun g => (zIA_reads ha E).2.2 g _) zw_306 (by decide +kernel) (by decide +kernel) (by decide +kernel) (by decide +kernel) (by decide +kernel) (by decide) (by decide) dX3_copy_51 ?_
  exact rv _ _ _ rfl ⟨rfl, (by
      have e1 : ¬ b + 1 = a := by omega
      have e2 : ¬ b + 2 = a := by omega
      have e3 : ¬ b + 2 = a + 1 := by omega
      have c0 : (nI 0).toNatClampNeg = 0 := nI_clamp (by decide)
      have c8 : (nI 8).toNatClampNeg = 8 := nI_clamp (by decide)
      refine ⟨fun k hk => ?_, fun k hk => ⟨?_, ?_⟩, fun c hc => ⟨?_, rfl⟩⟩
      · rcases (show k = 0 ∨ k = 1 ∨ k = 2 by omega) with rfl | rfl | rfl <;> simp [zg_setI, zg_putI]
      · simp [zg_setI, zg_putI, va_cpy, c0, c8, hk, e1, e2, e3]
      · simp [zg_setI, zg_putI, va_cpy, c0, c8, hk, e1, e2, e3]
      · have g1 : ¬ c = a := fun z => hc (by omega)
        have g2 : ¬ c = a + 1 := fun z => hc (by omega)
        have g3 : ¬ c = a + 2 := fun z => hc (by omega)
        funext k
        simp [zg_setI, zg_putI, g1, g2, g3])⟩ dX3_copy_54
set_option maxHeartbeats 4000000 in
set_option maxRecDepth 100000 in
theorem k_X3_remove {E : zE} (hI : zI E) (M : zM) {a n j : Nat} (ha : zRoom a) (hn : M.1 a 2 = nI n) (h8 : n ≤ 8) (hj : j < n) : zK E yX3_remove (.code yX3_remove cX3_remove 3 none) (zrm 0 0) [.ref (E.2.2.2 a), .int (nI j)] M (zpv (fun M2 => M2 = zputI (zsetI (zsetI M (a + 1) (zshf (M.1 (a + 1)) j (n - 1))) (a + 2) (zshf (M.1 (a + 2)) j (n - 1))) a 2 (nI (n - 1)))) := by
  refine zK_of hI (by decide) (Nat.le_of_ble_eq_true rfl) (fun x hx ri rz rl rv => ?_)
  show zJ E x 0 [(0, .ref (E.2.2.2 a)), (1, .int (nI j))] [] M
  refine z_iload_n hx 1 dX3_remove_0 rfl rfl ?_
  refine z_istore_n hx (lv2 := [(2, .int (nI j)), (0, .ref (E.2.2.2 a)), (1, .int (nI j))]) dX3_remove_1 rfl (by decide) rfl ?_
  have loop2 : ∀ (fuel : Nat) (t : Nat) (_ : j ≤ t) (_ : t < n), n - t < fuel → zJ E x 2 [(2, .int (nI t)), (0, .ref (E.2.2.2 a)), (1, .int (nI j))] [] (zsetI (zsetI M (a + 1) (zshf (M.1 (a + 1)) j t)) (a + 2) (zshf (M.1 (a + 2)) j t)) := by
    intro fuel
    induction fuel with
    | zero =>
      intros; omega
    | succ fuel ih =>
      intro t h1 h2 hfuel
      refine z_iload_n hx 0 dX3_remove_2 rfl rfl ?_
      refine z_iconst hx (v := nI 1) dX3_remove_3 (by decide +kernel) ?_
      refine z_iadd_n hx dX3_remove_4 ?_
      refine z_aload_n hx 1 dX3_remove_5 rfl rfl ?_
      refine zg_X3_2 hx ha zw_84 dX3_remove_6 ?_
      refine z_eqi (zskSI (by omega) (zskSI (by omega) hn)) ?_
      refine z_icmp_ge_n (tgt := 46) hx (by omega) (by omega) dX3_remove_9 (by decide) (fun h9 => ?_) (fun h9 => ?_)
      · skip
        obtain rfl : t = n - 1 := by omega
        refine z_aload_n hx 1 dX3_remove_46 rfl rfl ?_
        refine z_dup hx dX3_remove_47 rfl ?_
        refine zg_X3_2 hx ha zw_84 dX3_remove_48 ?_
        refine z_eqi (zskSI (by omega) (zskSI (by omega) hn)) ?_
        refine z_iconst hx (v := nI 1) dX3_remove_51 (by decide +kernel) ?_
        refine z_isub_n hx (by omega) dX3_remove_52 ?_
        refine zp_X3_2 hx ha zw_84 dX3_remove_53 ?_
        exact rv _ _ _ rfl ⟨rfl, rfl⟩ dX3_remove_56
      · skip
        refine z_aload_n hx 1 dX3_remove_12 rfl rfl ?_
        refine zg_X3_3 hx ha zw_88 dX3_remove_13 ?_
        refine z_iload_n hx 0 dX3_remove_16 rfl rfl ?_
        refine z_aload_n hx 1 dX3_remove_17 rfl rfl ?_
        refine zg_X3_3 hx ha zw_88 dX3_remove_18 ?_
        refine z_iload_n hx 0 dX3_remove_21 rfl rfl ?_
        refine z_iconst hx (v := nI 1) dX3_remove_22 (by decide +kernel) ?_
        refine z_iadd_n hx dX3_remove_23 ?_
        refine z_iald_n hx (zIA_codes ha E) (by omega) dX3_remove_24 ?_
        refine z_eqi (zskSI (by omega) zhtSI) ?_
        refine z_iast_n hx (zIA_codes ha E) (by omega) dX3_remove_25 ?_
        refine z_aload_n hx 1 dX3_remove_26 rfl rfl ?_
        refine zg_X3_4 hx ha zw_90 dX3_remove_27 ?_
        refine z_iload_n hx 0 dX3_remove_30 rfl rfl ?_
        refine z_aload_n hx 1 dX3_remove_31 rfl rfl ?_
        refine zg_X3_4 hx ha zw_90 dX3_remove_32 ?_
        refine z_iload_n hx 0 dX3_remove_35 rfl rfl ?_
        refine z_iconst hx (v := nI 1) dX3_remove_36 (by decide +kernel) ?_
        refine z_iadd_n hx dX3_remove_37 ?_
        refine z_iald_n hx (zIA_reads ha E) (by omega) dX3_remove_38 ?_
        refine z_eqi (zskI (by omega) zhtSI) ?_
        refine z_iast_n hx (zIA_reads ha E) (by omega) dX3_remove_39 ?_
        refine z_iinc hx (w := nI (t + 1)) (lv2 := [(2, .int (nI (t + 1))), (0, .ref (E.2.2.2 a)), (1, .int (nI j))]) 0 dX3_remove_40 rfl (z_inc _) (by decide) rfl ?_
        refine z_goto (tgt := 2) hx dX3_remove_43 (by decide) ?_
        exact z_to (ih (t + 1) (by omega) (by omega) (by omega)) [0, 1, 2] rfl (by rw [zps2 (by omega), zshf_s _ h1, zshf_s _ h1])
  exact z_to (loop2 _ j (Nat.le_refl _) hj (Nat.lt_succ_self _)) [0, 1, 2] rfl (by rw [zshf_0, zshf_0, zsetI_self, zsetI_self])
set_option maxHeartbeats 4000000 in
set_option maxRecDepth 100000 in
theorem k_X3_layOut {E : zE} (hI : zI E) (M : zM) {a w mm c t ln : Nat} {r : Int} (ha : zRoom a) (hln : zJA E ln 6) (hl46 : ln < 46) (hw : M.1 a 0 = nI w) (h1 : 1 ≤ w) (h4 : w ≤ 4) (hm : M.1 a 1 = nI mm) (ht : t < 8) (hc : M.1 (a + 1) t = nI c) (hc5 : c < 100000) (hr : M.1 (a + 2) t = Int32.ofInt r) (hr1 : -1000 ≤ r) (hr2 : r ≤ 1000) (hmm : mm ≤ 99) (hcw : zcode w c) (d : Bool) : zK E yX3_layOut (.code yX3_layOut cX3_layOut 6 none) (zrm 1 21) [.ref (E.2.2.2 a), .int (nI t), .int (zdr d), .ref (E.2.2.2 ln)] M (zpv (fun M2 => M2 = zsetJ M ln (fun i => if i ≤ zunk w d then Int64.ofInt (zLn w mm d c r t i) else M.2 ln i))) := by
  refine zK_of hI (by decide) (Nat.le_of_ble_eq_true rfl) (fun x hx ri rz rl rv => ?_)
  show zJ E x 0 [(0, .ref (E.2.2.2 a)), (1, .int (nI t)), (2, .int (zdr d)), (3, .ref (E.2.2.2 ln))] [] M
  have hge := zRoom_ge ha
  refine z_aload_n hx 0 dX3_layOut_0 rfl rfl ?_
  refine zg_X3_3 hx ha zw_88 dX3_layOut_1 ?_
  refine z_iload_n hx 1 dX3_layOut_4 rfl rfl ?_
  refine z_iald_n hx (zIA_codes ha E) (by omega) dX3_layOut_5 ?_
  refine z_eqi hc ?_
  refine z_istore hx (lv2 := [(4, .int (nI c)), (0, .ref (E.2.2.2 a)), (1, .int (nI t)), (2, .int (zdr d)), (3, .ref (E.2.2.2 ln))]) dX3_layOut_6 (by decide) rfl ?_
  refine z_aload_n hx 1 dX3_layOut_8 rfl rfl ?_
  refine zg_X3_0 hx ha zw_79 dX3_layOut_9 ?_
  refine z_eqi hw ?_
  refine z_iconst hx (v := nI 1) dX3_layOut_12 (by decide +kernel) ?_
  refine z_isub_n hx (by omega) dX3_layOut_13 ?_
  refine z_istore hx (lv2 := [(5, .int (nI (w - 1))), (4, .int (nI c)), (0, .ref (E.2.2.2 a)), (1, .int (nI t)), (2, .int (zdr d)), (3, .ref (E.2.2.2 ln))]) dX3_layOut_14 (by decide) rfl ?_
  have loop16 : ∀ (fuel : Nat) (i l : Nat) (_ : i ≤ w) (_ : l = c / 10 ^ (w - i)), i < fuel → zJ E x 16 [(5, .int (zdn i)), (4, .int (nI l)), (0, .ref (E.2.2.2 a)), (1, .int (nI t)), (2, .int (zdr d)), (3, .ref (E.2.2.2 ln))] [] (zsetJ M ln (zlo (M.2 ln) w c i)) := by
    intro fuel
    induction fuel with
    | zero =>
      intros; omega
    | succ fuel ih =>
      intro i l hi hl hfuel
      have hl5 : l < 100000 := by rw [hl]; exact Nat.lt_of_le_of_lt (Nat.div_le_self _ _) hc5
      rcases i with _ | i
      · skip
        show zJ E x 16 [(5, .int (-1)), (4, .int (nI l)), (0, .ref (E.2.2.2 a)), (1, .int (nI t)), (2, .int (zdr d)), (3, .ref (E.2.2.2 ln))] [] _
        refine z_iload hx 0 dX3_layOut_16 rfl ?_
        refine z_if_lt (tgt := 47) hx dX3_layOut_18 (by decide) (fun h18 => ?_) (fun h18 => ?_)
        · skip
          refine z_iload_n hx 4 dX3_layOut_47 rfl rfl ?_
          refine z_if_eq_d (tgt := 59) hx dX3_layOut_48 (by decide) (fun h48 => ?_) (fun h48 => ?_)
          · skip
            refine z_aload_n hx 5 dX3_layOut_59 rfl rfl ?_
            refine z_aload_n hx 2 dX3_layOut_60 rfl rfl ?_
            refine z_iload_n hx 4 dX3_layOut_61 rfl rfl ?_
            refine z_callV hx (As := [.int (zdr d)]) (st := [.ref (E.2.2.2 ln)]) (k_X3_unknowns hI (zsetJ M ln (zlo (M.2 ln) w c 0)) ha (zskSJI hw) d) zw_368 zy_X3_unknowns ⟨rfl, rfl⟩ (by decide) (zOB_room ha E) rfl rfl rfl rfl (Nat.le_of_ble_eq_true rfl) dX3_layOut_62 ?_
            rintro _ M62 ⟨v62, rfl, q62⟩
            obtain ⟨rfl, rfl⟩ := q62
            show zJ E x 65 _ [.int (nI (zunk w d)), .ref (E.2.2.2 ln)] _
            refine z_aload_n hx 2 dX3_layOut_65 rfl rfl ?_
            refine zg_X3_4 hx ha zw_90 dX3_layOut_66 ?_
            refine z_iload_n hx 3 dX3_layOut_69 rfl rfl ?_
            refine z_iald_n hx (zIA_reads ha E) (by omega) dX3_layOut_70 ?_
            refine z_eqi (zskSJI hr) ?_
            refine z_iload hx 1 dX3_layOut_71 rfl ?_
            refine z_callS hx (As := [.int (nI l)]) (st := [.int (Int32.ofInt r), .int (nI (zunk w d)), .ref (E.2.2.2 ln)]) (k_X3_signOf hI (zsetJ M ln (zlo (M.2 ln) w c 0)) l (by omega)) zw_365 zy_X3_signOf ⟨rfl, rfl⟩ (by decide) rfl rfl (Nat.le_of_ble_eq_true rfl) dX3_layOut_73 ?_
            rintro _ M73 ⟨v73, rfl, q73⟩
            obtain ⟨rfl, rfl⟩ := q73
            show zJ E x 76 _ [.int (Int32.ofInt (zsgd l)), .int (Int32.ofInt r), .int (nI (zunk w d)), .ref (E.2.2.2 ln)] _
            refine z_aload_n hx 2 dX3_layOut_76 rfl rfl ?_
            refine zg_X3_1 hx ha zw_82 dX3_layOut_77 ?_
            refine z_eqi (zskSJI hm) ?_
            refine z_imul hx dX3_layOut_80 ?_
            refine z_isub hx dX3_layOut_81 ?_
            refine z_i2l hx dX3_layOut_82 ?_
            refine z_last_n hx hln (by have := zunk_le h4 d; omega) dX3_layOut_83 ?_
            exact rv _ _ _ rfl ⟨rfl, (by subst hl; exact zlay_f (by assumption) h4 hcw hr1 hr2 hmm)⟩ dX3_layOut_84
          · skip
            refine z_aload_n hx 5 dX3_layOut_51 rfl rfl ?_
            refine z_aload_n hx 2 dX3_layOut_52 rfl rfl ?_
            refine zg_X3_0 hx ha zw_79 dX3_layOut_53 ?_
            refine z_eqi (zskSJI hw) ?_
            refine z_iload_n hx 3 dX3_layOut_56 rfl rfl ?_
            refine z_i2l hx dX3_layOut_57 ?_
            refine z_last_n hx hln (by omega) dX3_layOut_58 ?_
            refine z_aload_n hx 5 dX3_layOut_59 rfl rfl ?_
            refine z_aload_n hx 2 dX3_layOut_60 rfl rfl ?_
            refine z_iload_n hx 4 dX3_layOut_61 rfl rfl ?_
            refine z_callV hx (As := [.int (zdr d)]) (st := [.ref (E.2.2.2 ln)]) (k_X3_unknowns hI (zputJ (zsetJ M ln (zlo (M.2 ln) w c 0)) ln w ((nI t).toInt64)) ha (zskJI (zskSJI hw)) d) zw_368 zy_X3_unknowns ⟨rfl, rfl⟩ (by decide) (zOB_room ha E) rfl rfl rfl rfl (Nat.le_of_ble_eq_true rfl) dX3_layOut_62 ?_
            rintro _ M62 ⟨v62, rfl, q62⟩
            obtain ⟨rfl, rfl⟩ := q62
            show zJ E x 65 _ [.int (nI (zunk w d)), .ref (E.2.2.2 ln)] _
            refine z_aload_n hx 2 dX3_layOut_65 rfl rfl ?_
            refine zg_X3_4 hx ha zw_90 dX3_layOut_66 ?_
            refine z_iload_n hx 3 dX3_layOut_69 rfl rfl ?_
            refine z_iald_n hx (zIA_reads ha E) (by omega) dX3_layOut_70 ?_
            refine z_eqi (zskJI (zskSJI hr)) ?_
            refine z_iload hx 1 dX3_layOut_71 rfl ?_
            refine z_callS hx (As := [.int (nI l)]) (st := [.int (Int32.ofInt r), .int (nI (zunk w d)), .ref (E.2.2.2 ln)]) (k_X3_signOf hI (zputJ (zsetJ M ln (zlo (M.2 ln) w c 0)) ln w ((nI t).toInt64)) l (by omega)) zw_365 zy_X3_signOf ⟨rfl, rfl⟩ (by decide) rfl rfl (Nat.le_of_ble_eq_true rfl) dX3_layOut_73 ?_
            rintro _ M73 ⟨v73, rfl, q73⟩
            obtain ⟨rfl, rfl⟩ := q73
            show zJ E x 76 _ [.int (Int32.ofInt (zsgd l)), .int (Int32.ofInt r), .int (nI (zunk w d)), .ref (E.2.2.2 ln)] _
            refine z_aload_n hx 2 dX3_layOut_76 rfl rfl ?_
            refine zg_X3_1 hx ha zw_82 dX3_layOut_77 ?_
            refine z_eqi (zskJI (zskSJI hm)) ?_
            refine z_imul hx dX3_layOut_80 ?_
            refine z_isub hx dX3_layOut_81 ?_
            refine z_i2l hx dX3_layOut_82 ?_
            refine z_last_n hx hln (by have := zunk_le h4 d; omega) dX3_layOut_83 ?_
            exact rv _ _ _ rfl ⟨rfl, (by subst hl; exact zlay_t (by assumption) h4 hcw hr1 hr2 hmm ht)⟩ dX3_layOut_84
        · skip
          exact absurd (by decide +kernel) h18
      · skip
        show zJ E x 16 [(5, .int (nI i)), (4, .int (nI l)), (0, .ref (E.2.2.2 a)), (1, .int (nI t)), (2, .int (zdr d)), (3, .ref (E.2.2.2 ln))] [] _
        refine z_iload hx 0 dX3_layOut_16 rfl ?_
        refine z_if_lt_n (tgt := 47) hx (by omega) dX3_layOut_18 (by decide) ?_
        refine z_aload_n hx 5 dX3_layOut_21 rfl rfl ?_
        refine z_iload hx 0 dX3_layOut_22 rfl ?_
        refine z_iload hx 1 dX3_layOut_24 rfl ?_
        refine z_bipush hx (v := nI 10) dX3_layOut_26 (by decide +kernel) ?_
        refine z_irem_n hx (by omega) (by omega) (by omega) dX3_layOut_28 ?_
        refine z_callS hx (As := [.int (nI (l % 10))]) (st := [.int (nI i), .ref (E.2.2.2 ln)]) (k_X3_signOf hI (zsetJ M ln (zlo (M.2 ln) w c (i + 1))) (l % 10) (by omega)) zw_365 zy_X3_signOf ⟨rfl, rfl⟩ (by decide) rfl rfl (Nat.le_of_ble_eq_true rfl) dX3_layOut_29 ?_
        rintro _ M29 ⟨v29, rfl, q29⟩
        obtain ⟨rfl, rfl⟩ := q29
        show zJ E x 32 _ [.int (Int32.ofInt (zsgd (l % 10))), .int (nI i), .ref (E.2.2.2 ln)] _
        refine z_i2l hx dX3_layOut_32 ?_
        refine z_last_n hx hln (by omega) dX3_layOut_33 ?_
        refine z_iload hx 1 dX3_layOut_34 rfl ?_
        refine z_bipush hx (v := nI 10) dX3_layOut_36 (by decide +kernel) ?_
        refine z_idiv_n hx (by omega) (by omega) (by omega) dX3_layOut_38 ?_
        refine z_istore hx (lv2 := [(4, .int (nI (l / 10))), (5, .int (nI i)), (0, .ref (E.2.2.2 a)), (1, .int (nI t)), (2, .int (zdr d)), (3, .ref (E.2.2.2 ln))]) dX3_layOut_39 (by decide) rfl ?_
        refine z_iinc hx (w := zdn i) (lv2 := [(5, .int (zdn i)), (4, .int (nI (l / 10))), (0, .ref (E.2.2.2 a)), (1, .int (nI t)), (2, .int (zdr d)), (3, .ref (E.2.2.2 ln))]) 1 dX3_layOut_41 rfl (zdn_dec i) (by decide) rfl ?_
        refine z_goto (tgt := 16) hx dX3_layOut_44 (by decide) ?_
        exact z_to (ih i (l / 10) (by omega) (by rw [hl]; exact zdiv10 hi) (by omega)) [0, 1, 2, 3, 4, 5] rfl (by rw [zputJ_set, hl, zlo_s hi])
  exact z_to (loop16 _ w c (Nat.le_refl _) (by rw [Nat.sub_self, Nat.pow_zero, Nat.div_one]) (Nat.lt_succ_self _)) [0, 1, 2, 3, 4, 5] (by rw [zdn_w h1]; rfl) (by rw [zlo_w, zsetJ_self])
