/-- the text in cells 1 and 2 of M: len letters tx -/
def zTx (M : zM) (tx : Nat → Nat) (len : Nat) : Prop := M.1 1 1 = nI len ∧ len ≤ 90 ∧ ∀ k, k < 90 → M.1 2 k = nI (tx k) ∧ tx k ≤ 255
def zwt (tx : Nat → Nat) : Nat := if 49 ≤ tx 1 ∧ tx 1 ≤ 52 then tx 1 - 48 else 1
theorem zwt_in (tx : Nat → Nat) : 1 ≤ zwt tx ∧ zwt tx ≤ 4 := by unfold zwt; split <;> omega
def zfig (l : Nat) : Prop := 48 ≤ l ∧ l ≤ 57
def zsgn (l : Nat) : Prop := l = 43 ∨ l = 45
def zfit (tx : Nat → Nat) (p : Nat) : Prop := if p = 0 then tx p = 66 else if p = 1 then 49 ≤ tx p ∧ tx p ≤ 52 else if p < 4 then zfig (tx p) else if (p - 4) % (zwt tx + 6) = 0 then tx p = 119 ∧ (p - 4) / (zwt tx + 6) < 8 else if (p - 4) % (zwt tx + 6) ≤ zwt tx + 1 then tx p = 48 ∨ zsgn (tx p) else if (p - 4) % (zwt tx + 6) = zwt tx + 2 then zsgn (tx p) else zfig (tx p)
theorem zwt_lo : ∀ l, l < 256 → nI l - nI 48 < nI 1 → ¬ (49 ≤ l ∧ l ≤ 52) := by decide +kernel
theorem zwt_hi : ∀ l, l < 256 → ¬ nI l - nI 48 < nI 1 → ¬ nI l - nI 48 ≤ nI 4 → ¬ (49 ≤ l ∧ l ≤ 52) := by decide +kernel
theorem zwt_yes : ∀ l, l < 256 → ¬ nI l - nI 48 < nI 1 → nI l - nI 48 ≤ nI 4 → (49 ≤ l ∧ l ≤ 52) ∧ nI l - nI 48 = nI (l - 48) := by decide +kernel
set_option maxHeartbeats 4000000 in
set_option maxRecDepth 100000 in
theorem k_X4_isFigure {E : zE} (hI : zI E) (M : zM) (l : Nat) (hl : l ≤ 255) : zK E yX4_isFigure (.code yX4_isFigure cX4_isFigure 1 (some .boolean)) (zrm 0 0) [.int (nI l)] M (zpi (fun v M2 => ((zfig l ∧ v = nI 1) ∨ (¬ zfig l ∧ v = nI 0)) ∧ M2 = M)) := by
  refine zK_of hI (by decide) (Nat.le_of_ble_eq_true rfl) (fun x hx ri rz rl rv => ?_)
  show zJ E x 0 [(0, .int (nI l))] [] M
  refine z_iload_n hx 0 dX4_isFigure_0 rfl rfl ?_
  refine z_bipush hx (v := nI 48) dX4_isFigure_1 (by decide +kernel) ?_
  refine z_icmp_lt_n (tgt := 16) hx (by omega) (by omega) dX4_isFigure_3 (by decide) (fun h3 => ?_) (fun h3 => ?_)
  · skip
    refine z_iconst hx (v := nI 0) dX4_isFigure_16 (by decide +kernel) ?_
    exact rz _ _ _ _ rfl (Or.inl rfl) ⟨_, rfl, ⟨Or.inr ⟨by unfold zfig; omega, rfl⟩, rfl⟩⟩ dX4_isFigure_17
  · skip
    refine z_iload_n hx 0 dX4_isFigure_6 rfl rfl ?_
    refine z_bipush hx (v := nI 57) dX4_isFigure_7 (by decide +kernel) ?_
    refine z_icmp_gt_n (tgt := 16) hx (by omega) (by omega) dX4_isFigure_9 (by decide) (fun h9 => ?_) (fun h9 => ?_)
    · skip
      refine z_iconst hx (v := nI 0) dX4_isFigure_16 (by decide +kernel) ?_
      exact rz _ _ _ _ rfl (Or.inl rfl) ⟨_, rfl, ⟨Or.inr ⟨by unfold zfig; omega, rfl⟩, rfl⟩⟩ dX4_isFigure_17
    · skip
      refine z_iconst hx (v := nI 1) dX4_isFigure_12 (by decide +kernel) ?_
      refine z_goto (tgt := 17) hx dX4_isFigure_13 (by decide) ?_
      exact rz _ _ _ _ rfl (Or.inr rfl) ⟨_, rfl, ⟨Or.inl ⟨by unfold zfig; omega, rfl⟩, rfl⟩⟩ dX4_isFigure_17
set_option maxHeartbeats 4000000 in
set_option maxRecDepth 100000 in
theorem k_X4_isSign {E : zE} (hI : zI E) (M : zM) (l : Nat) (hl : l ≤ 255) : zK E yX4_isSign (.code yX4_isSign cX4_isSign 1 (some .boolean)) (zrm 0 0) [.int (nI l)] M (zpi (fun v M2 => ((zsgn l ∧ v = nI 1) ∨ (¬ zsgn l ∧ v = nI 0)) ∧ M2 = M)) := by
  refine zK_of hI (by decide) (Nat.le_of_ble_eq_true rfl) (fun x hx ri rz rl rv => ?_)
  show zJ E x 0 [(0, .int (nI l))] [] M
  refine z_iload_n hx 0 dX4_isSign_0 rfl rfl ?_
  refine z_bipush hx (v := nI 43) dX4_isSign_1 (by decide +kernel) ?_
  refine z_icmp_eq_n (tgt := 12) hx (by omega) (by omega) dX4_isSign_3 (by decide) (fun h3 => ?_) (fun h3 => ?_)
  · skip
    refine z_iconst hx (v := nI 1) dX4_isSign_12 (by decide +kernel) ?_
    refine z_goto (tgt := 17) hx dX4_isSign_13 (by decide) ?_
    exact rz _ _ _ _ rfl (Or.inr rfl) ⟨_, rfl, ⟨Or.inl ⟨by unfold zsgn; omega, rfl⟩, rfl⟩⟩ dX4_isSign_17
  · skip
    refine z_iload_n hx 0 dX4_isSign_6 rfl rfl ?_
    refine z_bipush hx (v := nI 45) dX4_isSign_7 (by decide +kernel) ?_
    refine z_icmp_ne_n (tgt := 16) hx (by omega) (by omega) dX4_isSign_9 (by decide) (fun h9 => ?_) (fun h9 => ?_)
    · skip
      refine z_iconst hx (v := nI 0) dX4_isSign_16 (by decide +kernel) ?_
      exact rz _ _ _ _ rfl (Or.inl rfl) ⟨_, rfl, ⟨Or.inr ⟨by unfold zsgn; omega, rfl⟩, rfl⟩⟩ dX4_isSign_17
    · skip
      refine z_iconst hx (v := nI 1) dX4_isSign_12 (by decide +kernel) ?_
      refine z_goto (tgt := 17) hx dX4_isSign_13 (by decide) ?_
      exact rz _ _ _ _ rfl (Or.inr rfl) ⟨_, rfl, ⟨Or.inl ⟨by unfold zsgn; omega, rfl⟩, rfl⟩⟩ dX4_isSign_17
set_option maxHeartbeats 4000000 in
set_option maxRecDepth 100000 in
theorem k_X4_weightsTold {E : zE} (hI : zI E) (M : zM) {tx : Nat → Nat} {len : Nat} (ht : zTx M tx len) : zK E yX4_weightsTold (.code yX4_weightsTold cX4_weightsTold 2 (some .int)) (zrm 0 0) [.ref (E.2.2.2 1)] M (zpi (fun v M2 => v = nI (zwt tx) ∧ M2 = M)) := by
  refine zK_of hI (by decide) (Nat.le_of_ble_eq_true rfl) (fun x hx ri rz rl rv => ?_)
  show zJ E x 0 [(0, .ref (E.2.2.2 1))] [] M
  have hw := zwt_in tx
  have hlen := ht.2.1
  have hl1 : tx 1 < 256 := by have := (ht.2.2 1 (by omega)).2; omega
  refine z_aload_n hx 0 dX4_weightsTold_0 rfl rfl ?_
  refine zg_X4_0 hx zw_63 dX4_weightsTold_1 ?_
  refine z_iconst hx (v := nI 1) dX4_weightsTold_4 (by decide +kernel) ?_
  refine z_iald_n hx (zIA_2 E) (by omega) dX4_weightsTold_5 ?_
  refine z_eqi (b := nI (tx 1)) (ht.2.2 1 (by omega)).1 ?_
  refine z_bipush hx (v := nI 48) dX4_weightsTold_6 (by decide +kernel) ?_
  refine z_isub hx dX4_weightsTold_8 ?_
  refine z_istore_n hx (lv2 := [(1, .int ((nI (tx 1)) - (nI 48))), (0, .ref (E.2.2.2 1))]) dX4_weightsTold_9 rfl (by decide) rfl ?_
  refine z_iload_n hx 0 dX4_weightsTold_10 rfl rfl ?_
  refine z_iconst hx (v := nI 1) dX4_weightsTold_11 (by decide +kernel) ?_
  refine z_icmp_lt (tgt := 20) hx dX4_weightsTold_12 (by decide) (fun h12 => ?_) (fun h12 => ?_)
  · skip
    refine z_iconst hx (v := nI 1) dX4_weightsTold_20 (by decide +kernel) ?_
    refine z_goto (tgt := 25) hx dX4_weightsTold_21 (by decide) ?_
    exact ri _ _ _ _ rfl ⟨_, rfl, ⟨by rw [zwt, if_neg (by first | exact zwt_lo _ hl1 h12 | exact zwt_hi _ hl1 h12 h17)], rfl⟩⟩ dX4_weightsTold_25
  · skip
    refine z_iload_n hx 0 dX4_weightsTold_15 rfl rfl ?_
    refine z_iconst hx (v := nI 4) dX4_weightsTold_16 (by decide +kernel) ?_
    refine z_icmp_le (tgt := 24) hx dX4_weightsTold_17 (by decide) (fun h17 => ?_) (fun h17 => ?_)
    · skip
      refine z_iload_n hx 0 dX4_weightsTold_24 rfl rfl ?_
      exact ri _ _ _ _ rfl ⟨_, rfl, ⟨by rw [zwt, if_pos (zwt_yes _ hl1 h12 h17).1]; exact (zwt_yes _ hl1 h12 h17).2, rfl⟩⟩ dX4_weightsTold_25
    · skip
      refine z_iconst hx (v := nI 1) dX4_weightsTold_20 (by decide +kernel) ?_
      refine z_goto (tgt := 25) hx dX4_weightsTold_21 (by decide) ?_
      exact ri _ _ _ _ rfl ⟨_, rfl, ⟨by rw [zwt, if_neg (by first | exact zwt_lo _ hl1 h12 | exact zwt_hi _ hl1 h12 h17)], rfl⟩⟩ dX4_weightsTold_25
set_option maxHeartbeats 4000000 in
set_option maxRecDepth 100000 in
theorem k_X4_lettersEach {E : zE} (hI : zI E) (M : zM) {tx : Nat → Nat} {len : Nat} (ht : zTx M tx len) : zK E yX4_lettersEach (.code yX4_lettersEach cX4_lettersEach 1 (some .int)) (zrm 1 21) [.ref (E.2.2.2 1)] M (zpi (fun v M2 => v = nI (zwt tx + 6) ∧ M2 = M)) := by
  refine zK_of hI (by decide) (Nat.le_of_ble_eq_true rfl) (fun x hx ri rz rl rv => ?_)
  show zJ E x 0 [(0, .ref (E.2.2.2 1))] [] M
  have hw := zwt_in tx
  have hlen := ht.2.1
  refine z_aload_n hx 0 dX4_lettersEach_0 rfl rfl ?_
  refine z_callV hx (As := []) (st := []) (k_X4_weightsTold hI M ht) zw_229 zy_X4_weightsTold ⟨rfl, rfl⟩ (by decide) (zOB_X4 E) rfl rfl rfl rfl (Nat.le_of_ble_eq_true rfl) dX4_lettersEach_1 ?_
  rintro _ M1 ⟨v1, rfl, q1⟩
  obtain ⟨rfl, q1⟩ := q1
  rw [q1]
  show zJ E x 4 _ [.int (nI (zwt tx))] _
  refine z_bipush hx (v := nI 6) dX4_lettersEach_4 (by decide +kernel) ?_
  refine z_iadd_n hx dX4_lettersEach_6 ?_
  exact ri _ _ _ _ rfl ⟨_, rfl, ⟨rfl, rfl⟩⟩ dX4_lettersEach_7
set_option maxHeartbeats 4000000 in
set_option maxRecDepth 100000 in
theorem k_X4_startOf {E : zE} (hI : zI E) (M : zM) {tx : Nat → Nat} {len : Nat} (ht : zTx M tx len) (t : Nat) : zK E yX4_startOf (.code yX4_startOf cX4_startOf 2 (some .int)) (zrm 2 41) [.ref (E.2.2.2 1), .int (nI t)] M (zpi (fun v M2 => v = nI (4 + t * (zwt tx + 6)) ∧ M2 = M)) := by
  refine zK_of hI (by decide) (Nat.le_of_ble_eq_true rfl) (fun x hx ri rz rl rv => ?_)
  show zJ E x 0 [(0, .ref (E.2.2.2 1)), (1, .int (nI t))] [] M
  have hw := zwt_in tx
  have hlen := ht.2.1
  refine z_iconst hx (v := nI 4) dX4_startOf_0 (by decide +kernel) ?_
  refine z_iload_n hx 1 dX4_startOf_1 rfl rfl ?_
  refine z_aload_n hx 0 dX4_startOf_2 rfl rfl ?_
  refine z_callV hx (As := []) (st := [.int (nI t), .int (nI 4)]) (k_X4_lettersEach hI M ht) zw_225 zy_X4_lettersEach ⟨rfl, rfl⟩ (by decide) (zOB_X4 E) rfl rfl rfl rfl (Nat.le_of_ble_eq_true rfl) dX4_startOf_3 ?_
  rintro _ M3 ⟨v3, rfl, q3⟩
  obtain ⟨rfl, q3⟩ := q3
  rw [q3]
  show zJ E x 6 _ [.int (nI (zwt tx + 6)), .int (nI t), .int (nI 4)] _
  refine z_imul_n hx dX4_startOf_6 ?_
  refine z_iadd_n hx dX4_startOf_7 ?_
  exact ri _ _ _ _ rfl ⟨_, rfl, ⟨rfl, rfl⟩⟩ dX4_startOf_8
set_option maxHeartbeats 4000000 in
set_option maxRecDepth 100000 in
theorem k_X4_weighingsTold {E : zE} (hI : zI E) (M : zM) {tx : Nat → Nat} {len : Nat} (ht : zTx M tx len) (h4 : 4 ≤ len) : zK E yX4_weighingsTold (.code yX4_weighingsTold cX4_weighingsTold 1 (some .int)) (zrm 2 41) [.ref (E.2.2.2 1)] M (zpi (fun v M2 => v = nI ((len - 4) / (zwt tx + 6)) ∧ M2 = M)) := by
  refine zK_of hI (by decide) (Nat.le_of_ble_eq_true rfl) (fun x hx ri rz rl rv => ?_)
  show zJ E x 0 [(0, .ref (E.2.2.2 1))] [] M
  have hw := zwt_in tx
  have hlen := ht.2.1
  refine z_aload_n hx 0 dX4_weighingsTold_0 rfl rfl ?_
  refine zg_X4_1 hx zw_65 dX4_weighingsTold_1 ?_
  refine z_eqi (b := nI len) ht.1 ?_
  refine z_iconst hx (v := nI 4) dX4_weighingsTold_4 (by decide +kernel) ?_
  refine z_isub_n hx (by omega) dX4_weighingsTold_5 ?_
  refine z_aload_n hx 0 dX4_weighingsTold_6 rfl rfl ?_
  refine z_callV hx (As := []) (st := [.int (nI (len - 4))]) (k_X4_lettersEach hI M ht) zw_225 zy_X4_lettersEach ⟨rfl, rfl⟩ (by decide) (zOB_X4 E) rfl rfl rfl rfl (Nat.le_of_ble_eq_true rfl) dX4_weighingsTold_7 ?_
  rintro _ M7 ⟨v7, rfl, q7⟩
  obtain ⟨rfl, q7⟩ := q7
  rw [q7]
  show zJ E x 10 _ [.int (nI (zwt tx + 6)), .int (nI (len - 4))] _
  refine z_idiv_n hx (by omega) (by omega) (by omega) dX4_weighingsTold_10 ?_
  exact ri _ _ _ _ rfl ⟨_, rfl, ⟨rfl, rfl⟩⟩ dX4_weighingsTold_11
set_option maxHeartbeats 4000000 in
set_option maxRecDepth 100000 in
theorem k_X4_figureAt {E : zE} (hI : zI E) (M : zM) {tx : Nat → Nat} {len : Nat} (ht : zTx M tx len) {k : Nat} (hk : k < 90) (hf : 48 ≤ tx k) : zK E yX4_figureAt (.code yX4_figureAt cX4_figureAt 2 (some .int)) (zrm 0 0) [.ref (E.2.2.2 1), .int (nI k)] M (zpi (fun v M2 => v = nI (tx k - 48) ∧ M2 = M)) := by
  refine zK_of hI (by decide) (Nat.le_of_ble_eq_true rfl) (fun x hx ri rz rl rv => ?_)
  show zJ E x 0 [(0, .ref (E.2.2.2 1)), (1, .int (nI k))] [] M
  have hw := zwt_in tx
  have hlen := ht.2.1
  refine z_aload_n hx 0 dX4_figureAt_0 rfl rfl ?_
  refine zg_X4_0 hx zw_63 dX4_figureAt_1 ?_
  refine z_iload_n hx 1 dX4_figureAt_4 rfl rfl ?_
  refine z_iald_n hx (zIA_2 E) (by omega) dX4_figureAt_5 ?_
  refine z_eqi (b := nI (tx k)) (ht.2.2 k (by omega)).1 ?_
  refine z_bipush hx (v := nI 48) dX4_figureAt_6 (by decide +kernel) ?_
  refine z_isub_n hx (by omega) dX4_figureAt_8 ?_
  exact ri _ _ _ _ rfl ⟨_, rfl, ⟨rfl, rfl⟩⟩ dX4_figureAt_9
set_option maxHeartbeats 4000000 in
set_option maxRecDepth 100000 in
theorem k_X4_masterTold {E : zE} (hI : zI E) (M : zM) {tx : Nat → Nat} {len : Nat} (ht : zTx M tx len) (h2 : 48 ≤ tx 2) (h3 : 48 ≤ tx 3) : zK E yX4_masterTold (.code yX4_masterTold cX4_masterTold 1 (some .int)) (zrm 1 21) [.ref (E.2.2.2 1)] M (zpi (fun v M2 => v = nI (10 * (tx 2 - 48) + (tx 3 - 48)) ∧ M2 = M)) := by
  refine zK_of hI (by decide) (Nat.le_of_ble_eq_true rfl) (fun x hx ri rz rl rv => ?_)
  show zJ E x 0 [(0, .ref (E.2.2.2 1))] [] M
  have hw := zwt_in tx
  have hlen := ht.2.1
  refine z_bipush hx (v := nI 10) dX4_masterTold_0 (by decide +kernel) ?_
  refine z_aload_n hx 0 dX4_masterTold_2 rfl rfl ?_
  refine z_iconst hx (v := nI 2) dX4_masterTold_3 (by decide +kernel) ?_
  refine z_callV hx (As := [.int (nI 2)]) (st := [.int (nI 10)]) (k_X4_figureAt hI M ht (k := 2) (by omega) (by omega)) zw_249 zy_X4_figureAt ⟨rfl, rfl⟩ (by decide) (zOB_X4 E) rfl rfl rfl rfl (Nat.le_of_ble_eq_true rfl) dX4_masterTold_4 ?_
  rintro _ M4 ⟨v4, rfl, q4⟩
  obtain ⟨rfl, q4⟩ := q4
  rw [q4]
  show zJ E x 7 _ [.int (nI (tx 2 - 48)), .int (nI 10)] _
  refine z_imul_n hx dX4_masterTold_7 ?_
  refine z_aload_n hx 0 dX4_masterTold_8 rfl rfl ?_
  refine z_iconst hx (v := nI 3) dX4_masterTold_9 (by decide +kernel) ?_
  refine z_callV hx (As := [.int (nI 3)]) (st := [.int (nI (10 * (tx 2 - 48)))]) (k_X4_figureAt hI M ht (k := 3) (by omega) (by omega)) zw_249 zy_X4_figureAt ⟨rfl, rfl⟩ (by decide) (zOB_X4 E) rfl rfl rfl rfl (Nat.le_of_ble_eq_true rfl) dX4_masterTold_10 ?_
  rintro _ M10 ⟨v10, rfl, q10⟩
  obtain ⟨rfl, q10⟩ := q10
  rw [q10]
  show zJ E x 13 _ [.int (nI (tx 3 - 48)), .int (nI (10 * (tx 2 - 48)))] _
  refine z_iadd_n hx dX4_masterTold_13 ?_
  exact ri _ _ _ _ rfl ⟨_, rfl, ⟨rfl, rfl⟩⟩ dX4_masterTold_14
set_option maxHeartbeats 4000000 in
set_option maxRecDepth 100000 in
theorem k_X4_fits {E : zE} (hI : zI E) (M : zM) {tx : Nat → Nat} {len : Nat} (ht : zTx M tx len) {p : Nat} (hp : p < 90) : zK E yX4_fits (.code yX4_fits cX4_fits 5 (some .boolean)) (zrm 2 41) [.ref (E.2.2.2 1), .int (nI p)] M (zpi (fun v M2 => ((zfit tx p ∧ v = nI 1) ∨ (¬ zfit tx p ∧ v = nI 0)) ∧ M2 = M)) := by
  refine zK_of hI (by decide) (Nat.le_of_ble_eq_true rfl) (fun x hx ri rz rl rv => ?_)
  show zJ E x 0 [(0, .ref (E.2.2.2 1)), (1, .int (nI p))] [] M
  have hw := zwt_in tx
  have hlen := ht.2.1
  have hl := (ht.2.2 p hp).2
  have hmo := Nat.mod_lt (p - 4) (show 0 < zwt tx + 6 by omega)
  have hdi := Nat.div_le_self (p - 4) (zwt tx + 6)
  refine z_aload_n hx 0 dX4_fits_0 rfl rfl ?_
  refine zg_X4_0 hx zw_63 dX4_fits_1 ?_
  refine z_iload_n hx 1 dX4_fits_4 rfl rfl ?_
  refine z_iald_n hx (zIA_2 E) (by omega) dX4_fits_5 ?_
  refine z_eqi (b := nI (tx p)) (ht.2.2 p (by omega)).1 ?_
  refine z_istore_n hx (lv2 := [(2, .int (nI (tx p))), (0, .ref (E.2.2.2 1)), (1, .int (nI p))]) dX4_fits_6 rfl (by decide) rfl ?_
  refine z_iload_n hx 2 dX4_fits_7 rfl rfl ?_
  refine z_if_ne_n (tgt := 23) hx (by omega) dX4_fits_8 (by decide) (fun h8 => ?_) (fun h8 => ?_)
  · skip
    refine z_iload_n hx 2 dX4_fits_23 rfl rfl ?_
    refine z_iconst hx (v := nI 1) dX4_fits_24 (by decide +kernel) ?_
    refine z_icmp_ne_n (tgt := 46) hx (by omega) (by omega) dX4_fits_25 (by decide) (fun h25 => ?_) (fun h25 => ?_)
    · skip
      refine z_iload_n hx 2 dX4_fits_46 rfl rfl ?_
      refine z_iconst hx (v := nI 4) dX4_fits_47 (by decide +kernel) ?_
      refine z_icmp_ge_n (tgt := 56) hx (by omega) (by omega) dX4_fits_48 (by decide) (fun h48 => ?_) (fun h48 => ?_)
      · skip
        refine z_iload_n hx 2 dX4_fits_56 rfl rfl ?_
        refine z_iconst hx (v := nI 4) dX4_fits_57 (by decide +kernel) ?_
        refine z_isub_n hx (by omega) dX4_fits_58 ?_
        refine z_istore_n hx (lv2 := [(3, .int (nI (p - 4))), (2, .int (nI (tx p))), (0, .ref (E.2.2.2 1)), (1, .int (nI p))]) dX4_fits_59 rfl (by decide) rfl ?_
        refine z_iload_n hx 0 dX4_fits_60 rfl rfl ?_
        refine z_aload_n hx 2 dX4_fits_61 rfl rfl ?_
        refine z_callV hx (As := []) (st := [.int (nI (p - 4))]) (k_X4_lettersEach hI M ht) zw_225 zy_X4_lettersEach ⟨rfl, rfl⟩ (by decide) (zOB_X4 E) rfl rfl rfl rfl (Nat.le_of_ble_eq_true rfl) dX4_fits_62 ?_
        rintro _ M62 ⟨v62, rfl, q62⟩
        obtain ⟨rfl, q62⟩ := q62
        rw [q62]
        show zJ E x 65 _ [.int (nI (zwt tx + 6)), .int (nI (p - 4))] _
        refine z_irem_n hx (by omega) (by omega) (by omega) dX4_fits_65 ?_
        refine z_istore hx (lv2 := [(4, .int (nI ((p - 4) % (zwt tx + 6)))), (3, .int (nI (p - 4))), (2, .int (nI (tx p))), (0, .ref (E.2.2.2 1)), (1, .int (nI p))]) dX4_fits_66 (by decide) rfl ?_
        refine z_iload hx 0 dX4_fits_68 rfl ?_
        refine z_if_ne_n (tgt := 96) hx (by omega) dX4_fits_70 (by decide) (fun h70 => ?_) (fun h70 => ?_)
        · skip
          refine z_iload hx 0 dX4_fits_96 rfl ?_
          refine z_aload_n hx 3 dX4_fits_98 rfl rfl ?_
          refine z_callV hx (As := []) (st := [.int (nI ((p - 4) % (zwt tx + 6)))]) (k_X4_weightsTold hI M ht) zw_229 zy_X4_weightsTold ⟨rfl, rfl⟩ (by decide) (zOB_X4 E) rfl rfl rfl rfl (Nat.le_of_ble_eq_true rfl) dX4_fits_99 ?_
          rintro _ M99 ⟨v99, rfl, q99⟩
          obtain ⟨rfl, q99⟩ := q99
          rw [q99]
          show zJ E x 102 _ [.int (nI (zwt tx)), .int (nI ((p - 4) % (zwt tx + 6)))] _
          refine z_iconst hx (v := nI 1) dX4_fits_102 (by decide +kernel) ?_
          refine z_iadd_n hx dX4_fits_103 ?_
          refine z_icmp_gt_n (tgt := 126) hx (by omega) (by omega) dX4_fits_104 (by decide) (fun h104 => ?_) (fun h104 => ?_)
          · skip
            refine z_iload hx 0 dX4_fits_126 rfl ?_
            refine z_aload_n hx 3 dX4_fits_128 rfl rfl ?_
            refine z_callV hx (As := []) (st := [.int (nI ((p - 4) % (zwt tx + 6)))]) (k_X4_weightsTold hI M ht) zw_229 zy_X4_weightsTold ⟨rfl, rfl⟩ (by decide) (zOB_X4 E) rfl rfl rfl rfl (Nat.le_of_ble_eq_true rfl) dX4_fits_129 ?_
            rintro _ M129 ⟨v129, rfl, q129⟩
            obtain ⟨rfl, q129⟩ := q129
            rw [q129]
            show zJ E x 132 _ [.int (nI (zwt tx)), .int (nI ((p - 4) % (zwt tx + 6)))] _
            refine z_iconst hx (v := nI 2) dX4_fits_132 (by decide +kernel) ?_
            refine z_iadd_n hx dX4_fits_133 ?_
            refine z_icmp_ne_n (tgt := 144) hx (by omega) (by omega) dX4_fits_134 (by decide) (fun h134 => ?_) (fun h134 => ?_)
            · skip
              refine z_iload_n hx 2 dX4_fits_144 rfl rfl ?_
              refine z_callS hx (As := [.int (nI (tx p))]) (st := []) (k_X4_isFigure hI M (tx p) (by have := (ht.2.2 _ hp).2; exact this)) zw_222 zy_X4_isFigure ⟨rfl, rfl⟩ (by decide) rfl rfl (Nat.le_of_ble_eq_true rfl) dX4_fits_145 ?_
              rintro _ M145 ⟨v145, rfl, q145⟩
              obtain ⟨q145, hmm⟩ := q145
              rw [hmm]
              rcases q145 with ⟨q145, rfl⟩ | ⟨q145, rfl⟩
              · skip
                show zJ E x 148 _ [.int (nI 1)] _
                exact rz _ _ _ _ rfl (Or.inr rfl) ⟨_, rfl, ⟨Or.inl ⟨by unfold zfit; (repeat (first | rw [if_pos (by omega)] | rw [if_neg (by omega)])); first | assumption | omega | exact Or.inr (by assumption) | (unfold zfig at *; omega) | (unfold zsgn at *; omega), rfl⟩, rfl⟩⟩ dX4_fits_148
              · skip
                show zJ E x 148 _ [.int (nI 0)] _
                exact rz _ _ _ _ rfl (Or.inl rfl) ⟨_, rfl, ⟨Or.inr ⟨by unfold zfit; (repeat (first | rw [if_pos (by omega)] | rw [if_neg (by omega)])); first | assumption | omega | exact Or.inr (by assumption) | (unfold zfig at *; omega) | (unfold zsgn at *; omega), rfl⟩, rfl⟩⟩ dX4_fits_148
            · skip
              refine z_iload_n hx 2 dX4_fits_137 rfl rfl ?_
              refine z_callS hx (As := [.int (nI (tx p))]) (st := []) (k_X4_isSign hI M (tx p) (by have := (ht.2.2 _ hp).2; exact this)) zw_233 zy_X4_isSign ⟨rfl, rfl⟩ (by decide) rfl rfl (Nat.le_of_ble_eq_true rfl) dX4_fits_138 ?_
              rintro _ M138 ⟨v138, rfl, q138⟩
              obtain ⟨q138, hmm⟩ := q138
              rw [hmm]
              rcases q138 with ⟨q138, rfl⟩ | ⟨q138, rfl⟩
              · skip
                show zJ E x 141 _ [.int (nI 1)] _
                refine z_goto (tgt := 148) hx dX4_fits_141 (by decide) ?_
                exact rz _ _ _ _ rfl (Or.inr rfl) ⟨_, rfl, ⟨Or.inl ⟨by unfold zfit; (repeat (first | rw [if_pos (by omega)] | rw [if_neg (by omega)])); first | assumption | omega | exact Or.inr (by assumption) | (unfold zfig at *; omega) | (unfold zsgn at *; omega), rfl⟩, rfl⟩⟩ dX4_fits_148
              · skip
                show zJ E x 141 _ [.int (nI 0)] _
                refine z_goto (tgt := 148) hx dX4_fits_141 (by decide) ?_
                exact rz _ _ _ _ rfl (Or.inl rfl) ⟨_, rfl, ⟨Or.inr ⟨by unfold zfit; (repeat (first | rw [if_pos (by omega)] | rw [if_neg (by omega)])); first | assumption | omega | exact Or.inr (by assumption) | (unfold zfig at *; omega) | (unfold zsgn at *; omega), rfl⟩, rfl⟩⟩ dX4_fits_148
          · skip
            refine z_iload_n hx 2 dX4_fits_107 rfl rfl ?_
            refine z_bipush hx (v := nI 48) dX4_fits_108 (by decide +kernel) ?_
            refine z_icmp_eq_n (tgt := 120) hx (by omega) (by omega) dX4_fits_110 (by decide) (fun h110 => ?_) (fun h110 => ?_)
            · skip
              refine z_iconst hx (v := nI 1) dX4_fits_120 (by decide +kernel) ?_
              refine z_goto (tgt := 125) hx dX4_fits_121 (by decide) ?_
              exact rz _ _ _ _ rfl (Or.inr rfl) ⟨_, rfl, ⟨Or.inl ⟨by unfold zfit; (repeat (first | rw [if_pos (by omega)] | rw [if_neg (by omega)])); first | assumption | omega | exact Or.inr (by assumption) | (unfold zfig at *; omega) | (unfold zsgn at *; omega), rfl⟩, rfl⟩⟩ dX4_fits_125
            · skip
              refine z_iload_n hx 2 dX4_fits_113 rfl rfl ?_
              refine z_callS hx (As := [.int (nI (tx p))]) (st := []) (k_X4_isSign hI M (tx p) (by have := (ht.2.2 _ hp).2; exact this)) zw_233 zy_X4_isSign ⟨rfl, rfl⟩ (by decide) rfl rfl (Nat.le_of_ble_eq_true rfl) dX4_fits_114 ?_
              rintro _ M114 ⟨v114, rfl, q114⟩
              obtain ⟨q114, hmm⟩ := q114
              rw [hmm]
              rcases q114 with ⟨q114, rfl⟩ | ⟨q114, rfl⟩
              · skip
                show zJ E x 117 _ [.int (nI 1)] _
                refine z_if_eq_n (tgt := 124) hx (by decide) dX4_fits_117 (by decide) (fun h => absurd h (by decide)) (fun _ => ?_)
                refine z_iconst hx (v := nI 1) dX4_fits_120 (by decide +kernel) ?_
                refine z_goto (tgt := 125) hx dX4_fits_121 (by decide) ?_
                exact rz _ _ _ _ rfl (Or.inr rfl) ⟨_, rfl, ⟨Or.inl ⟨by unfold zfit; (repeat (first | rw [if_pos (by omega)] | rw [if_neg (by omega)])); first | assumption | omega | exact Or.inr (by assumption) | (unfold zfig at *; omega) | (unfold zsgn at *; omega), rfl⟩, rfl⟩⟩ dX4_fits_125
              · skip
                show zJ E x 117 _ [.int (nI 0)] _
                refine z_if_eq_n (tgt := 124) hx (by decide) dX4_fits_117 (by decide) (fun _ => ?_) (fun h => absurd h (by decide))
                refine z_iconst hx (v := nI 0) dX4_fits_124 (by decide +kernel) ?_
                exact rz _ _ _ _ rfl (Or.inl rfl) ⟨_, rfl, ⟨Or.inr ⟨by unfold zfit; (repeat (first | rw [if_pos (by omega)] | rw [if_neg (by omega)])); first | assumption | omega | exact Or.inr (by assumption) | (unfold zfig at *; omega) | (unfold zsgn at *; omega), rfl⟩, rfl⟩⟩ dX4_fits_125
        · skip
          refine z_iload_n hx 2 dX4_fits_73 rfl rfl ?_
          refine z_bipush hx (v := nI 119) dX4_fits_74 (by decide +kernel) ?_
          refine z_icmp_ne_n (tgt := 94) hx (by omega) (by omega) dX4_fits_76 (by decide) (fun h76 => ?_) (fun h76 => ?_)
          · skip
            refine z_iconst hx (v := nI 0) dX4_fits_94 (by decide +kernel) ?_
            exact rz _ _ _ _ rfl (Or.inl rfl) ⟨_, rfl, ⟨Or.inr ⟨by unfold zfit; (repeat (first | rw [if_pos (by omega)] | rw [if_neg (by omega)])); first | assumption | omega | exact Or.inr (by assumption) | (unfold zfig at *; omega) | (unfold zsgn at *; omega), rfl⟩, rfl⟩⟩ dX4_fits_95
          · skip
            refine z_iload_n hx 1 dX4_fits_79 rfl rfl ?_
            refine z_aload_n hx 3 dX4_fits_80 rfl rfl ?_
            refine z_callV hx (As := []) (st := [.int (nI (p - 4))]) (k_X4_lettersEach hI M ht) zw_225 zy_X4_lettersEach ⟨rfl, rfl⟩ (by decide) (zOB_X4 E) rfl rfl rfl rfl (Nat.le_of_ble_eq_true rfl) dX4_fits_81 ?_
            rintro _ M81 ⟨v81, rfl, q81⟩
            obtain ⟨rfl, q81⟩ := q81
            rw [q81]
            show zJ E x 84 _ [.int (nI (zwt tx + 6)), .int (nI (p - 4))] _
            refine z_idiv_n hx (by omega) (by omega) (by omega) dX4_fits_84 ?_
            refine z_bipush hx (v := nI 8) dX4_fits_85 (by decide +kernel) ?_
            refine z_icmp_ge_n (tgt := 94) hx (by omega) (by omega) dX4_fits_87 (by decide) (fun h87 => ?_) (fun h87 => ?_)
            · skip
              refine z_iconst hx (v := nI 0) dX4_fits_94 (by decide +kernel) ?_
              exact rz _ _ _ _ rfl (Or.inl rfl) ⟨_, rfl, ⟨Or.inr ⟨by unfold zfit; (repeat (first | rw [if_pos (by omega)] | rw [if_neg (by omega)])); first | assumption | omega | exact Or.inr (by assumption) | (unfold zfig at *; omega) | (unfold zsgn at *; omega), rfl⟩, rfl⟩⟩ dX4_fits_95
            · skip
              refine z_iconst hx (v := nI 1) dX4_fits_90 (by decide +kernel) ?_
              refine z_goto (tgt := 95) hx dX4_fits_91 (by decide) ?_
              exact rz _ _ _ _ rfl (Or.inr rfl) ⟨_, rfl, ⟨Or.inl ⟨by unfold zfit; (repeat (first | rw [if_pos (by omega)] | rw [if_neg (by omega)])); first | assumption | omega | exact Or.inr (by assumption) | (unfold zfig at *; omega) | (unfold zsgn at *; omega), rfl⟩, rfl⟩⟩ dX4_fits_95
      · skip
        refine z_iload_n hx 0 dX4_fits_51 rfl rfl ?_
        refine z_callS hx (As := [.int (nI (tx p))]) (st := []) (k_X4_isFigure hI M (tx p) (by have := (ht.2.2 _ hp).2; exact this)) zw_222 zy_X4_isFigure ⟨rfl, rfl⟩ (by decide) rfl rfl (Nat.le_of_ble_eq_true rfl) dX4_fits_52 ?_
        rintro _ M52 ⟨v52, rfl, q52⟩
        obtain ⟨q52, hmm⟩ := q52
        rw [hmm]
        rcases q52 with ⟨q52, rfl⟩ | ⟨q52, rfl⟩
        · skip
          show zJ E x 55 _ [.int (nI 1)] _
          exact rz _ _ _ _ rfl (Or.inr rfl) ⟨_, rfl, ⟨Or.inl ⟨by unfold zfit; (repeat (first | rw [if_pos (by omega)] | rw [if_neg (by omega)])); first | assumption | omega | exact Or.inr (by assumption) | (unfold zfig at *; omega) | (unfold zsgn at *; omega), rfl⟩, rfl⟩⟩ dX4_fits_55
        · skip
          show zJ E x 55 _ [.int (nI 0)] _
          exact rz _ _ _ _ rfl (Or.inl rfl) ⟨_, rfl, ⟨Or.inr ⟨by unfold zfit; (repeat (first | rw [if_pos (by omega)] | rw [if_neg (by omega)])); first | assumption | omega | exact Or.inr (by assumption) | (unfold zfig at *; omega) | (unfold zsgn at *; omega), rfl⟩, rfl⟩⟩ dX4_fits_55
    · skip
      refine z_iload_n hx 0 dX4_fits_28 rfl rfl ?_
      refine z_bipush hx (v := nI 49) dX4_fits_29 (by decide +kernel) ?_
      refine z_icmp_lt_n (tgt := 44) hx (by omega) (by omega) dX4_fits_31 (by decide) (fun h31 => ?_) (fun h31 => ?_)
      · skip
        refine z_iconst hx (v := nI 0) dX4_fits_44 (by decide +kernel) ?_
        exact rz _ _ _ _ rfl (Or.inl rfl) ⟨_, rfl, ⟨Or.inr ⟨by unfold zfit; (repeat (first | rw [if_pos (by omega)] | rw [if_neg (by omega)])); first | assumption | omega | exact Or.inr (by assumption) | (unfold zfig at *; omega) | (unfold zsgn at *; omega), rfl⟩, rfl⟩⟩ dX4_fits_45
      · skip
        refine z_iload_n hx 0 dX4_fits_34 rfl rfl ?_
        refine z_bipush hx (v := nI 52) dX4_fits_35 (by decide +kernel) ?_
        refine z_icmp_gt_n (tgt := 44) hx (by omega) (by omega) dX4_fits_37 (by decide) (fun h37 => ?_) (fun h37 => ?_)
        · skip
          refine z_iconst hx (v := nI 0) dX4_fits_44 (by decide +kernel) ?_
          exact rz _ _ _ _ rfl (Or.inl rfl) ⟨_, rfl, ⟨Or.inr ⟨by unfold zfit; (repeat (first | rw [if_pos (by omega)] | rw [if_neg (by omega)])); first | assumption | omega | exact Or.inr (by assumption) | (unfold zfig at *; omega) | (unfold zsgn at *; omega), rfl⟩, rfl⟩⟩ dX4_fits_45
        · skip
          refine z_iconst hx (v := nI 1) dX4_fits_40 (by decide +kernel) ?_
          refine z_goto (tgt := 45) hx dX4_fits_41 (by decide) ?_
          exact rz _ _ _ _ rfl (Or.inr rfl) ⟨_, rfl, ⟨Or.inl ⟨by unfold zfit; (repeat (first | rw [if_pos (by omega)] | rw [if_neg (by omega)])); first | assumption | omega | exact Or.inr (by assumption) | (unfold zfig at *; omega) | (unfold zsgn at *; omega), rfl⟩, rfl⟩⟩ dX4_fits_45
  · skip
    refine z_iload_n hx 0 dX4_fits_11 rfl rfl ?_
    refine z_bipush hx (v := nI 66) dX4_fits_12 (by decide +kernel) ?_
    refine z_icmp_ne_n (tgt := 21) hx (by omega) (by omega) dX4_fits_14 (by decide) (fun h14 => ?_) (fun h14 => ?_)
    · skip
      refine z_iconst hx (v := nI 0) dX4_fits_21 (by decide +kernel) ?_
      exact rz _ _ _ _ rfl (Or.inl rfl) ⟨_, rfl, ⟨Or.inr ⟨by unfold zfit; (repeat (first | rw [if_pos (by omega)] | rw [if_neg (by omega)])); first | assumption | omega | exact Or.inr (by assumption) | (unfold zfig at *; omega) | (unfold zsgn at *; omega), rfl⟩, rfl⟩⟩ dX4_fits_22
    · skip
      refine z_iconst hx (v := nI 1) dX4_fits_17 (by decide +kernel) ?_
      refine z_goto (tgt := 22) hx dX4_fits_18 (by decide) ?_
      exact rz _ _ _ _ rfl (Or.inr rfl) ⟨_, rfl, ⟨Or.inl ⟨by unfold zfit; (repeat (first | rw [if_pos (by omega)] | rw [if_neg (by omega)])); first | assumption | omega | exact Or.inr (by assumption) | (unfold zfig at *; omega) | (unfold zsgn at *; omega), rfl⟩, rfl⟩⟩ dX4_fits_22
def zpan (l : Nat) : Nat := if l = 43 then 1 else if l = 45 then 2 else 0
theorem zpan_le (l : Nat) : zpan l ≤ 2 := by unfold zpan; split; omega; split <;> omega
def zcd (tx : Nat → Nat) (s : Nat) : Nat → Nat
  | 0 => 0
  | k + 1 => 10 * zcd tx s k + zpan (tx (s + k))
theorem zcd_lt (tx : Nat → Nat) (s : Nat) : ∀ k, zcd tx s k < 10 ^ k
  | 0 => by simp [zcd]
  | k + 1 => by
    have h := zcd_lt tx s k
    have h2 := zpan_le (tx (s + k))
    rw [zcd, Nat.pow_succ]
    omega
theorem zcd_5 (tx : Nat → Nat) (s : Nat) {k : Nat} (h : k ≤ 5) : zcd tx s k < 100000 := Nat.lt_of_lt_of_le (zcd_lt tx s k) (Nat.le_trans (Nat.pow_le_pow_right (by decide) h) (by decide))
theorem zcd_dig (tx : Nat → Nat) (s : Nat) : ∀ k j, zcd tx s k / 10 ^ j % 10 ≤ 2
  | 0, j => by simp [zcd]
  | k + 1, 0 => by
    have h2 := zpan_le (tx (s + k))
    rw [zcd, Nat.pow_zero, Nat.div_one]
    omega
  | k + 1, j + 1 => by
    have h := zcd_dig tx s k j
    have h2 := zpan_le (tx (s + k))
    rw [zcd, Nat.pow_succ, Nat.mul_comm (10 ^ j) 10, ← Nat.div_div_eq_div_mul, show (10 * zcd tx s k + zpan (tx (s + k))) / 10 = zcd tx s k by omega]
    exact h
theorem zcd_code (tx : Nat → Nat) (s w : Nat) : zcode w (zcd tx s (w + 1)) := ⟨zcd_lt tx s (w + 1), fun k _ => zcd_dig tx s (w + 1) k⟩
def zsz (tx : Nat → Nat) (s : Nat) : Nat := 100 * (tx (s + 1) - 48) + 10 * (tx (s + 2) - 48) + (tx (s + 3) - 48)
def zrdT (tx : Nat → Nat) (s : Nat) : Int := if tx s = 45 then -(zsz tx s : Int) else (zsz tx s : Int)
set_option maxHeartbeats 4000000 in
set_option maxRecDepth 100000 in
theorem k_X4_codeTold {E : zE} (hI : zI E) (M : zM) {tx : Nat → Nat} {len : Nat} (ht : zTx M tx len) {t : Nat} (hT : 4 + t * (zwt tx + 6) + (zwt tx + 6) ≤ 90) : zK E yX4_codeTold (.code yX4_codeTold cX4_codeTold 6 (some .int)) (zrm 3 62) [.ref (E.2.2.2 1), .int (nI t)] M (zpi (fun v M2 => v = nI (zcd tx (4 + t * (zwt tx + 6) + 1) (zwt tx + 1)) ∧ M2 = M)) := by
  refine zK_of hI (by decide) (Nat.le_of_ble_eq_true rfl) (fun x hx ri rz rl rv => ?_)
  show zJ E x 0 [(0, .ref (E.2.2.2 1)), (1, .int (nI t))] [] M
  have hw := zwt_in tx
  have hlen := ht.2.1
  have hmul : t * (zwt tx + 6) ≤ 90 := by omega
  refine z_aload_n hx 0 dX4_codeTold_0 rfl rfl ?_
  refine z_iload_n hx 1 dX4_codeTold_1 rfl rfl ?_
  refine z_callV hx (As := [.int (nI t)]) (st := []) (k_X4_startOf hI M ht t) zw_264 zy_X4_startOf ⟨rfl, rfl⟩ (by decide) (zOB_X4 E) rfl rfl rfl rfl (Nat.le_of_ble_eq_true rfl) dX4_codeTold_2 ?_
  rintro _ M2 ⟨v2, rfl, q2⟩
  obtain ⟨rfl, q2⟩ := q2
  rw [q2]
  show zJ E x 5 _ [.int (nI (4 + t * (zwt tx + 6)))] _
  refine z_iconst hx (v := nI 1) dX4_codeTold_5 (by decide +kernel) ?_
  refine z_iadd_n hx dX4_codeTold_6 ?_
  refine z_istore_n hx (lv2 := [(2, .int (nI ((4 + t * (zwt tx + 6)) + 1))), (0, .ref (E.2.2.2 1)), (1, .int (nI t))]) dX4_codeTold_7 rfl (by decide) rfl ?_
  refine z_iconst hx (v := nI 0) dX4_codeTold_8 (by decide +kernel) ?_
  refine z_istore_n hx (lv2 := [(3, .int (nI 0)), (2, .int (nI ((4 + t * (zwt tx + 6)) + 1))), (0, .ref (E.2.2.2 1)), (1, .int (nI t))]) dX4_codeTold_9 rfl (by decide) rfl ?_
  refine z_iconst hx (v := nI 0) dX4_codeTold_10 (by decide +kernel) ?_
  refine z_istore hx (lv2 := [(4, .int (nI 0)), (3, .int (nI 0)), (2, .int (nI ((4 + t * (zwt tx + 6)) + 1))), (0, .ref (E.2.2.2 1)), (1, .int (nI t))]) dX4_codeTold_11 (by decide) rfl ?_
  have loop13 : ∀ (fuel13 : Nat) (k : Nat) (_ : k ≤ zwt tx + 1), zwt tx + 1 - k < fuel13 → zJ E x 13 [(4, .int (nI k)), (3, .int (nI (zcd tx (4 + t * (zwt tx + 6) + 1) k))), (2, .int (nI (4 + t * (zwt tx + 6) + 1))), (0, .ref (E.2.2.2 1)), (1, .int (nI t))] [] M := by
    intro fuel13
    induction fuel13 with
    | zero =>
      intros; omega
    | succ fuel13 ih13 =>
      intro k hk hfuel13
      refine z_iload hx 0 dX4_codeTold_13 rfl ?_
      refine z_aload_n hx 3 dX4_codeTold_15 rfl rfl ?_
      refine z_callV hx (As := []) (st := [.int (nI k)]) (k_X4_weightsTold hI M ht) zw_229 zy_X4_weightsTold ⟨rfl, rfl⟩ (by decide) (zOB_X4 E) rfl rfl rfl rfl (Nat.le_of_ble_eq_true rfl) dX4_codeTold_16 ?_
      rintro _ M16 ⟨v16, rfl, q16⟩
      obtain ⟨rfl, q16⟩ := q16
      rw [q16]
      show zJ E x 19 _ [.int (nI (zwt tx)), .int (nI k)] _
      refine z_icmp_gt_n (tgt := 68) hx (by omega) (by omega) dX4_codeTold_19 (by decide) (fun h19 => ?_) (fun h19 => ?_)
      · skip
        refine z_iload_n hx 1 dX4_codeTold_68 rfl rfl ?_
        exact ri _ _ _ _ rfl ⟨_, rfl, ⟨by rw [show k = zwt tx + 1 by omega], rfl⟩⟩ dX4_codeTold_69
      · skip
        refine z_aload_n hx 3 dX4_codeTold_22 rfl rfl ?_
        refine zg_X4_0 hx zw_63 dX4_codeTold_23 ?_
        refine z_iload_n hx 2 dX4_codeTold_26 rfl rfl ?_
        refine z_iload hx 0 dX4_codeTold_27 rfl ?_
        refine z_iadd_n hx dX4_codeTold_29 ?_
        refine z_iald_n hx (zIA_2 E) (by omega) dX4_codeTold_30 ?_
        refine z_eqi (b := nI (tx ((4 + t * (zwt tx + 6) + 1) + k))) (ht.2.2 ((4 + t * (zwt tx + 6) + 1) + k) (by omega)).1 ?_
        refine z_istore hx (lv2 := [(5, .int (nI (tx ((4 + t * (zwt tx + 6) + 1) + k)))), (4, .int (nI k)), (3, .int (nI (zcd tx (4 + t * (zwt tx + 6) + 1) k))), (2, .int (nI (4 + t * (zwt tx + 6) + 1))), (0, .ref (E.2.2.2 1)), (1, .int (nI t))]) dX4_codeTold_31 (by decide) rfl ?_
        refine z_bipush hx (v := nI 10) dX4_codeTold_33 (by decide +kernel) ?_
        have hl5 := (ht.2.2 (4 + t * (zwt tx + 6) + 1 + k) (by omega)).2
        refine z_iload_n hx 2 dX4_codeTold_35 rfl rfl ?_
        refine z_imul_n hx dX4_codeTold_36 ?_
        refine z_iload hx 0 dX4_codeTold_37 rfl ?_
        refine z_bipush hx (v := nI 43) dX4_codeTold_39 (by decide +kernel) ?_
        refine z_icmp_ne_n (tgt := 48) hx (by omega) (by omega) dX4_codeTold_41 (by decide) (fun h41 => ?_) (fun h41 => ?_)
        · skip
          refine z_iload hx 0 dX4_codeTold_48 rfl ?_
          refine z_bipush hx (v := nI 45) dX4_codeTold_50 (by decide +kernel) ?_
          refine z_icmp_ne_n (tgt := 59) hx (by omega) (by omega) dX4_codeTold_52 (by decide) (fun h52 => ?_) (fun h52 => ?_)
          · skip
            refine z_iconst hx (v := nI 0) dX4_codeTold_59 (by decide +kernel) ?_
            refine z_iadd_n hx dX4_codeTold_60 ?_
            refine z_istore_n hx (lv2 := [(3, .int (nI ((10 * (zcd tx (4 + t * (zwt tx + 6) + 1) k)) + 0))), (5, .int (nI (tx ((4 + t * (zwt tx + 6) + 1) + k)))), (4, .int (nI k)), (2, .int (nI (4 + t * (zwt tx + 6) + 1))), (0, .ref (E.2.2.2 1)), (1, .int (nI t))]) dX4_codeTold_61 rfl (by decide) rfl ?_
            refine z_iinc hx (w := nI (k + 1)) (lv2 := [(4, .int (nI (k + 1))), (3, .int (nI ((10 * (zcd tx (4 + t * (zwt tx + 6) + 1) k)) + 0))), (5, .int (nI (tx ((4 + t * (zwt tx + 6) + 1) + k)))), (2, .int (nI (4 + t * (zwt tx + 6) + 1))), (0, .ref (E.2.2.2 1)), (1, .int (nI t))]) 2 dX4_codeTold_62 rfl (z_inc _) (by decide) rfl ?_
            refine z_goto (tgt := 13) hx dX4_codeTold_65 (by decide) ?_
            exact z_to (ih13 (k + 1) (by omega) (by omega)) [0, 1, 3, 4, 5] (by rw [zcd, zpan, if_neg h41, if_neg h52]; rfl) rfl
          · skip
            refine z_iconst hx (v := nI 2) dX4_codeTold_55 (by decide +kernel) ?_
            refine z_goto (tgt := 60) hx dX4_codeTold_56 (by decide) ?_
            refine z_iadd_n hx dX4_codeTold_60 ?_
            refine z_istore_n hx (lv2 := [(3, .int (nI ((10 * (zcd tx (4 + t * (zwt tx + 6) + 1) k)) + 2))), (5, .int (nI (tx ((4 + t * (zwt tx + 6) + 1) + k)))), (4, .int (nI k)), (2, .int (nI (4 + t * (zwt tx + 6) + 1))), (0, .ref (E.2.2.2 1)), (1, .int (nI t))]) dX4_codeTold_61 rfl (by decide) rfl ?_
            refine z_iinc hx (w := nI (k + 1)) (lv2 := [(4, .int (nI (k + 1))), (3, .int (nI ((10 * (zcd tx (4 + t * (zwt tx + 6) + 1) k)) + 2))), (5, .int (nI (tx ((4 + t * (zwt tx + 6) + 1) + k)))), (2, .int (nI (4 + t * (zwt tx + 6) + 1))), (0, .ref (E.2.2.2 1)), (1, .int (nI t))]) 2 dX4_codeTold_62 rfl (z_inc _) (by decide) rfl ?_
            refine z_goto (tgt := 13) hx dX4_codeTold_65 (by decide) ?_
            exact z_to (ih13 (k + 1) (by omega) (by omega)) [0, 1, 3, 4, 5] (by rw [zcd, zpan, if_neg h41, if_pos h52]; rfl) rfl
        · skip
          refine z_iconst hx (v := nI 1) dX4_codeTold_44 (by decide +kernel) ?_
          refine z_goto (tgt := 60) hx dX4_codeTold_45 (by decide) ?_
          refine z_iadd_n hx dX4_codeTold_60 ?_
          refine z_istore_n hx (lv2 := [(3, .int (nI ((10 * (zcd tx (4 + t * (zwt tx + 6) + 1) k)) + 1))), (5, .int (nI (tx ((4 + t * (zwt tx + 6) + 1) + k)))), (4, .int (nI k)), (2, .int (nI (4 + t * (zwt tx + 6) + 1))), (0, .ref (E.2.2.2 1)), (1, .int (nI t))]) dX4_codeTold_61 rfl (by decide) rfl ?_
          refine z_iinc hx (w := nI (k + 1)) (lv2 := [(4, .int (nI (k + 1))), (3, .int (nI ((10 * (zcd tx (4 + t * (zwt tx + 6) + 1) k)) + 1))), (5, .int (nI (tx ((4 + t * (zwt tx + 6) + 1) + k)))), (2, .int (nI (4 + t * (zwt tx + 6) + 1))), (0, .ref (E.2.2.2 1)), (1, .int (nI t))]) 2 dX4_codeTold_62 rfl (z_inc _) (by decide) rfl ?_
          refine z_goto (tgt := 13) hx dX4_codeTold_65 (by decide) ?_
          exact z_to (ih13 (k + 1) (by omega) (by omega)) [0, 1, 3, 4, 5] (by rw [zcd, zpan, if_pos h41]; rfl) rfl
  exact z_to (loop13 _ 0 (by omega) (Nat.lt_succ_self _)) [0, 1, 2, 3, 4] rfl rfl
set_option maxHeartbeats 4000000 in
set_option maxRecDepth 100000 in
theorem k_X4_readingTold {E : zE} (hI : zI E) (M : zM) {tx : Nat → Nat} {len : Nat} (ht : zTx M tx len) {t : Nat} (hT : 4 + t * (zwt tx + 6) + (zwt tx + 6) ≤ 90) (f1 : zfig (tx (4 + t * (zwt tx + 6) + zwt tx + 2 + 1))) (f2 : zfig (tx (4 + t * (zwt tx + 6) + zwt tx + 2 + 2))) (f3 : zfig (tx (4 + t * (zwt tx + 6) + zwt tx + 2 + 3))) : zK E yX4_readingTold (.code yX4_readingTold cX4_readingTold 4 (some .int)) (zrm 3 62) [.ref (E.2.2.2 1), .int (nI t)] M (zpi (fun v M2 => v = Int32.ofInt (zrdT tx (4 + t * (zwt tx + 6) + zwt tx + 2)) ∧ M2 = M)) := by
  refine zK_of hI (by decide) (Nat.le_of_ble_eq_true rfl) (fun x hx ri rz rl rv => ?_)
  show zJ E x 0 [(0, .ref (E.2.2.2 1)), (1, .int (nI t))] [] M
  have hw := zwt_in tx
  have hlen := ht.2.1
  have hmul : t * (zwt tx + 6) ≤ 90 := by omega
  unfold zfig at f1 f2 f3
  refine z_aload_n hx 0 dX4_readingTold_0 rfl rfl ?_
  refine z_iload_n hx 1 dX4_readingTold_1 rfl rfl ?_
  refine z_callV hx (As := [.int (nI t)]) (st := []) (k_X4_startOf hI M ht t) zw_264 zy_X4_startOf ⟨rfl, rfl⟩ (by decide) (zOB_X4 E) rfl rfl rfl rfl (Nat.le_of_ble_eq_true rfl) dX4_readingTold_2 ?_
  rintro _ M2 ⟨v2, rfl, q2⟩
  obtain ⟨rfl, q2⟩ := q2
  rw [q2]
  show zJ E x 5 _ [.int (nI (4 + t * (zwt tx + 6)))] _
  refine z_aload_n hx 0 dX4_readingTold_5 rfl rfl ?_
  refine z_callV hx (As := []) (st := [.int (nI (4 + t * (zwt tx + 6)))]) (k_X4_weightsTold hI M ht) zw_229 zy_X4_weightsTold ⟨rfl, rfl⟩ (by decide) (zOB_X4 E) rfl rfl rfl rfl (Nat.le_of_ble_eq_true rfl) dX4_readingTold_6 ?_
  rintro _ M6 ⟨v6, rfl, q6⟩
  obtain ⟨rfl, q6⟩ := q6
  rw [q6]
  show zJ E x 9 _ [.int (nI (zwt tx)), .int (nI (4 + t * (zwt tx + 6)))] _
  refine z_iadd_n hx dX4_readingTold_9 ?_
  refine z_iconst hx (v := nI 2) dX4_readingTold_10 (by decide +kernel) ?_
  refine z_iadd_n hx dX4_readingTold_11 ?_
  refine z_istore_n hx (lv2 := [(2, .int (nI (((4 + t * (zwt tx + 6)) + (zwt tx)) + 2))), (0, .ref (E.2.2.2 1)), (1, .int (nI t))]) dX4_readingTold_12 rfl (by decide) rfl ?_
  refine z_bipush hx (v := nI 100) dX4_readingTold_13 (by decide +kernel) ?_
  refine z_aload_n hx 1 dX4_readingTold_15 rfl rfl ?_
  refine z_iload_n hx 0 dX4_readingTold_16 rfl rfl ?_
  refine z_iconst hx (v := nI 1) dX4_readingTold_17 (by decide +kernel) ?_
  refine z_iadd_n hx dX4_readingTold_18 ?_
  refine z_callV hx (As := [.int (nI ((((4 + t * (zwt tx + 6)) + (zwt tx)) + 2) + 1))]) (st := [.int (nI 100)]) (k_X4_figureAt hI M ht (k := (((4 + t * (zwt tx + 6)) + (zwt tx)) + 2) + 1) (by omega) (by omega)) zw_249 zy_X4_figureAt ⟨rfl, rfl⟩ (by decide) (zOB_X4 E) rfl rfl rfl rfl (Nat.le_of_ble_eq_true rfl) dX4_readingTold_19 ?_
  rintro _ M19 ⟨v19, rfl, q19⟩
  obtain ⟨rfl, q19⟩ := q19
  rw [q19]
  show zJ E x 22 _ [.int (nI (tx ((((4 + t * (zwt tx + 6)) + (zwt tx)) + 2) + 1) - 48)), .int (nI 100)] _
  refine z_imul_n hx dX4_readingTold_22 ?_
  refine z_bipush hx (v := nI 10) dX4_readingTold_23 (by decide +kernel) ?_
  refine z_aload_n hx 1 dX4_readingTold_25 rfl rfl ?_
  refine z_iload_n hx 0 dX4_readingTold_26 rfl rfl ?_
  refine z_iconst hx (v := nI 2) dX4_readingTold_27 (by decide +kernel) ?_
  refine z_iadd_n hx dX4_readingTold_28 ?_
  refine z_callV hx (As := [.int (nI ((((4 + t * (zwt tx + 6)) + (zwt tx)) + 2) + 2))]) (st := [.int (nI 10), .int (nI (100 * (tx ((((4 + t * (zwt tx + 6)) + (zwt tx)) + 2) + 1) - 48)))]) (k_X4_figureAt hI M ht (k := (((4 + t * (zwt tx + 6)) + (zwt tx)) + 2) + 2) (by omega) (by omega)) zw_249 zy_X4_figureAt ⟨rfl, rfl⟩ (by decide) (zOB_X4 E) rfl rfl rfl rfl (Nat.le_of_ble_eq_true rfl) dX4_readingTold_29 ?_
  rintro _ M29 ⟨v29, rfl, q29⟩
  obtain ⟨rfl, q29⟩ := q29
  rw [q29]
  show zJ E x 32 _ [.int (nI (tx ((((4 + t * (zwt tx + 6)) + (zwt tx)) + 2) + 2) - 48)), .int (nI 10), .int (nI (100 * (tx ((((4 + t * (zwt tx + 6)) + (zwt tx)) + 2) + 1) - 48)))] _
  refine z_imul_n hx dX4_readingTold_32 ?_
  refine z_iadd_n hx dX4_readingTold_33 ?_
  refine z_aload_n hx 1 dX4_readingTold_34 rfl rfl ?_
  refine z_iload_n hx 0 dX4_readingTold_35 rfl rfl ?_
  refine z_iconst hx (v := nI 3) dX4_readingTold_36 (by decide +kernel) ?_
  refine z_iadd_n hx dX4_readingTold_37 ?_
  refine z_callV hx (As := [.int (nI ((((4 + t * (zwt tx + 6)) + (zwt tx)) + 2) + 3))]) (st := [.int (nI ((100 * (tx ((((4 + t * (zwt tx + 6)) + (zwt tx)) + 2) + 1) - 48)) + (10 * (tx ((((4 + t * (zwt tx + 6)) + (zwt tx)) + 2) + 2) - 48))))]) (k_X4_figureAt hI M ht (k := (((4 + t * (zwt tx + 6)) + (zwt tx)) + 2) + 3) (by omega) (by omega)) zw_249 zy_X4_figureAt ⟨rfl, rfl⟩ (by decide) (zOB_X4 E) rfl rfl rfl rfl (Nat.le_of_ble_eq_true rfl) dX4_readingTold_38 ?_
  rintro _ M38 ⟨v38, rfl, q38⟩
  obtain ⟨rfl, q38⟩ := q38
  rw [q38]
  show zJ E x 41 _ [.int (nI (tx ((((4 + t * (zwt tx + 6)) + (zwt tx)) + 2) + 3) - 48)), .int (nI ((100 * (tx ((((4 + t * (zwt tx + 6)) + (zwt tx)) + 2) + 1) - 48)) + (10 * (tx ((((4 + t * (zwt tx + 6)) + (zwt tx)) + 2) + 2) - 48))))] _
  refine z_iadd_n hx dX4_readingTold_41 ?_
  refine z_istore_n hx (lv2 := [(3, .int (nI (((100 * (tx ((((4 + t * (zwt tx + 6)) + (zwt tx)) + 2) + 1) - 48)) + (10 * (tx ((((4 + t * (zwt tx + 6)) + (zwt tx)) + 2) + 2) - 48))) + (tx ((((4 + t * (zwt tx + 6)) + (zwt tx)) + 2) + 3) - 48)))), (2, .int (nI (((4 + t * (zwt tx + 6)) + (zwt tx)) + 2))), (0, .ref (E.2.2.2 1)), (1, .int (nI t))]) dX4_readingTold_42 rfl (by decide) rfl ?_
  refine z_aload_n hx 2 dX4_readingTold_43 rfl rfl ?_
  refine zg_X4_0 hx zw_63 dX4_readingTold_44 ?_
  refine z_iload_n hx 1 dX4_readingTold_47 rfl rfl ?_
  refine z_iald_n hx (zIA_2 E) (by omega) dX4_readingTold_48 ?_
  refine z_eqi (b := nI (tx (((4 + t * (zwt tx + 6)) + (zwt tx)) + 2))) (ht.2.2 (((4 + t * (zwt tx + 6)) + (zwt tx)) + 2) (by omega)).1 ?_
  have hl5 := (ht.2.2 (4 + t * (zwt tx + 6) + zwt tx + 2) (by omega)).2
  refine z_bipush hx (v := nI 45) dX4_readingTold_49 (by decide +kernel) ?_
  refine z_icmp_ne_n (tgt := 59) hx (by omega) (by omega) dX4_readingTold_51 (by decide) (fun h51 => ?_) (fun h51 => ?_)
  · skip
    refine z_iload_n hx 0 dX4_readingTold_59 rfl rfl ?_
    exact ri _ _ _ _ rfl ⟨_, rfl, ⟨by rw [zrdT, if_neg h51]; rfl, rfl⟩⟩ dX4_readingTold_60
  · skip
    refine z_iload_n hx 0 dX4_readingTold_54 rfl rfl ?_
    refine z_ineg hx dX4_readingTold_55 ?_
    refine z_goto (tgt := 60) hx dX4_readingTold_56 (by decide) ?_
    exact ri _ _ _ _ rfl ⟨_, rfl, ⟨by rw [zrdT, if_pos h51, Int32.ofInt_neg]; rfl, rfl⟩⟩ dX4_readingTold_60
/-- the fault: its place, or none -/
def zFt (tx : Nat → Nat) (len : Nat) (v : Int32) : Prop := (∃ k, k < len ∧ (∀ j, j < k → zfit tx j) ∧ ¬ zfit tx k ∧ v = nI k) ∨ ((∀ j, j < len → zfit tx j) ∧ ((4 ≤ len ∧ (len - 4) % (zwt tx + 6) = 0 ∧ v = -9) ∨ (¬ (4 ≤ len ∧ (len - 4) % (zwt tx + 6) = 0) ∧ v = nI len)))
set_option maxHeartbeats 4000000 in
set_option maxRecDepth 100000 in
theorem k_X4_faultPlace {E : zE} (hI : zI E) (M : zM) {tx : Nat → Nat} {len : Nat} (ht : zTx M tx len) : zK E yX4_faultPlace (.code yX4_faultPlace cX4_faultPlace 2 (some .int)) (zrm 3 65) [.ref (E.2.2.2 1)] M (zpi (fun v M2 => zFt tx len v ∧ M2 = M)) := by
  refine zK_of hI (by decide) (Nat.le_of_ble_eq_true rfl) (fun x hx ri rz rl rv => ?_)
  show zJ E x 0 [(0, .ref (E.2.2.2 1))] [] M
  have hw := zwt_in tx
  have hlen := ht.2.1
  have hmo := Nat.mod_lt (len - 4) (show 0 < zwt tx + 6 by omega)
  refine z_iconst hx (v := nI 0) dX4_faultPlace_0 (by decide +kernel) ?_
  refine z_istore_n hx (lv2 := [(1, .int (nI 0)), (0, .ref (E.2.2.2 1))]) dX4_faultPlace_1 rfl (by decide) rfl ?_
  have loop2 : ∀ (fuel2 : Nat) (k : Nat) (_ : k ≤ len) (_ : ∀ j, j < k → zfit tx j), len - k < fuel2 → zJ E x 2 [(1, .int (nI k)), (0, .ref (E.2.2.2 1))] [] M := by
    intro fuel2
    induction fuel2 with
    | zero =>
      intros; omega
    | succ fuel2 ih2 =>
      intro k hk hf hfuel2
      refine z_iload_n hx 0 dX4_faultPlace_2 rfl rfl ?_
      refine z_aload_n hx 1 dX4_faultPlace_3 rfl rfl ?_
      refine zg_X4_1 hx zw_65 dX4_faultPlace_4 ?_
      refine z_eqi (b := nI len) ht.1 ?_
      refine z_icmp_ge_n (tgt := 26) hx (by omega) (by omega) dX4_faultPlace_7 (by decide) (fun h7 => ?_) (fun h7 => ?_)
      · skip
        refine z_aload_n hx 1 dX4_faultPlace_26 rfl rfl ?_
        refine zg_X4_1 hx zw_65 dX4_faultPlace_27 ?_
        refine z_eqi (b := nI len) ht.1 ?_
        refine z_iconst hx (v := nI 4) dX4_faultPlace_30 (by decide +kernel) ?_
        refine z_icmp_lt_n (tgt := 52) hx (by omega) (by omega) dX4_faultPlace_31 (by decide) (fun h31 => ?_) (fun h31 => ?_)
        · skip
          refine z_iconst hx (v := nI 0) dX4_faultPlace_52 (by decide +kernel) ?_
          refine z_istore_n hx (lv2 := [(1, .int (nI 0)), (0, .ref (E.2.2.2 1))]) dX4_faultPlace_53 rfl (by decide) rfl ?_
          refine z_iload_n hx 0 dX4_faultPlace_54 rfl rfl ?_
          refine z_if_eq_n (tgt := 63) hx (by decide) dX4_faultPlace_55 (by decide) (fun _ => ?_) (fun h => absurd h (by decide))
          refine z_aload_n hx 1 dX4_faultPlace_63 rfl rfl ?_
          refine zg_X4_1 hx zw_65 dX4_faultPlace_64 ?_
          refine z_eqi (b := nI len) ht.1 ?_
          exact ri _ _ _ _ rfl ⟨_, rfl, ⟨Or.inr ⟨fun j hj => hf j (by omega), Or.inr ⟨by omega, rfl⟩⟩, rfl⟩⟩ dX4_faultPlace_67
        · skip
          refine z_aload_n hx 1 dX4_faultPlace_34 rfl rfl ?_
          refine zg_X4_1 hx zw_65 dX4_faultPlace_35 ?_
          refine z_eqi (b := nI len) ht.1 ?_
          refine z_iconst hx (v := nI 4) dX4_faultPlace_38 (by decide +kernel) ?_
          refine z_isub_n hx (by omega) dX4_faultPlace_39 ?_
          refine z_aload_n hx 1 dX4_faultPlace_40 rfl rfl ?_
          refine z_callV hx (As := []) (st := [.int (nI (len - 4))]) (k_X4_lettersEach hI M ht) zw_225 zy_X4_lettersEach ⟨rfl, rfl⟩ (by decide) (zOB_X4 E) rfl rfl rfl rfl (Nat.le_of_ble_eq_true rfl) dX4_faultPlace_41 ?_
          rintro _ M41 ⟨v41, rfl, q41⟩
          obtain ⟨rfl, q41⟩ := q41
          rw [q41]
          show zJ E x 44 _ [.int (nI (zwt tx + 6)), .int (nI (len - 4))] _
          refine z_irem_n hx (by omega) (by omega) (by omega) dX4_faultPlace_44 ?_
          refine z_if_ne_n (tgt := 52) hx (by omega) dX4_faultPlace_45 (by decide) (fun h45 => ?_) (fun h45 => ?_)
          · skip
            refine z_iconst hx (v := nI 0) dX4_faultPlace_52 (by decide +kernel) ?_
            refine z_istore_n hx (lv2 := [(1, .int (nI 0)), (0, .ref (E.2.2.2 1))]) dX4_faultPlace_53 rfl (by decide) rfl ?_
            refine z_iload_n hx 0 dX4_faultPlace_54 rfl rfl ?_
            refine z_if_eq_n (tgt := 63) hx (by decide) dX4_faultPlace_55 (by decide) (fun _ => ?_) (fun h => absurd h (by decide))
            refine z_aload_n hx 1 dX4_faultPlace_63 rfl rfl ?_
            refine zg_X4_1 hx zw_65 dX4_faultPlace_64 ?_
            refine z_eqi (b := nI len) ht.1 ?_
            exact ri _ _ _ _ rfl ⟨_, rfl, ⟨Or.inr ⟨fun j hj => hf j (by omega), Or.inr ⟨by omega, rfl⟩⟩, rfl⟩⟩ dX4_faultPlace_67
          · skip
            refine z_iconst hx (v := nI 1) dX4_faultPlace_48 (by decide +kernel) ?_
            refine z_goto (tgt := 53) hx dX4_faultPlace_49 (by decide) ?_
            refine z_istore_n hx (lv2 := [(1, .int (nI 1)), (0, .ref (E.2.2.2 1))]) dX4_faultPlace_53 rfl (by decide) rfl ?_
            refine z_iload_n hx 0 dX4_faultPlace_54 rfl rfl ?_
            refine z_if_eq_n (tgt := 63) hx (by decide) dX4_faultPlace_55 (by decide) (fun h => absurd h (by decide)) (fun _ => ?_)
            refine z_bipush hx (v := (-9)) dX4_faultPlace_58 rfl ?_
            refine z_goto (tgt := 67) hx dX4_faultPlace_60 (by decide) ?_
            exact ri _ _ _ _ rfl ⟨_, rfl, ⟨Or.inr ⟨fun j hj => hf j (by omega), Or.inl ⟨h31, h45, rfl⟩⟩, rfl⟩⟩ dX4_faultPlace_67
      · skip
        refine z_aload_n hx 1 dX4_faultPlace_10 rfl rfl ?_
        refine z_iload_n hx 0 dX4_faultPlace_11 rfl rfl ?_
        refine z_callV hx (As := [.int (nI k)]) (st := []) (k_X4_fits hI M ht (p := k) (by omega)) zw_218 zy_X4_fits ⟨rfl, rfl⟩ (by decide) (zOB_X4 E) rfl rfl rfl rfl (Nat.le_of_ble_eq_true rfl) dX4_faultPlace_12 ?_
        rintro _ M12 ⟨v12, rfl, q12⟩
        obtain ⟨q12, hmm⟩ := q12
        rw [hmm]
        rcases q12 with ⟨q12, rfl⟩ | ⟨q12, rfl⟩
        · skip
          show zJ E x 15 _ [.int (nI 1)] _
          refine z_if_ne_n (tgt := 20) hx (by decide) dX4_faultPlace_15 (by decide) (fun _ => ?_) (fun h => absurd h (by decide))
          refine z_iinc hx (w := nI (k + 1)) (lv2 := [(1, .int (nI (k + 1))), (0, .ref (E.2.2.2 1))]) 0 dX4_faultPlace_20 rfl (z_inc _) (by decide) rfl ?_
          refine z_goto (tgt := 2) hx dX4_faultPlace_23 (by decide) ?_
          exact z_to (ih2 (k + 1) (by omega) (fun j hj => by rcases Nat.lt_or_ge j k with z | z; exact hf j z; rw [show j = k by omega]; exact q12) (by omega)) [0, 1] rfl rfl
        · skip
          show zJ E x 15 _ [.int (nI 0)] _
          refine z_if_ne_n (tgt := 20) hx (by decide) dX4_faultPlace_15 (by decide) (fun h => absurd h (by decide)) (fun _ => ?_)
          refine z_iload_n hx 0 dX4_faultPlace_18 rfl rfl ?_
          exact ri _ _ _ _ rfl ⟨_, rfl, ⟨Or.inl ⟨k, h7, hf, q12, rfl⟩, rfl⟩⟩ dX4_faultPlace_19
  exact z_to (loop2 _ 0 (by omega) (fun j hj => by omega) (Nat.lt_succ_self _)) [0, 1] rfl rfl
