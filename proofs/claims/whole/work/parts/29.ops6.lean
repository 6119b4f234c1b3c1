def zrmv (r : zRo) (j : Nat) : zRo := (r.1, r.2.1 - 1, r.2.2.1, (fun k => if j ≤ k then r.2.2.2.1 (k + 1) else r.2.2.2.1 k), (fun k => if j ≤ k then r.2.2.2.2 (k + 1) else r.2.2.2.2 k))
/-- a told doing: the room behind it, if it can be (or is so) -/
def zdo (r : zRo) (x : Nat) : Option zRo :=
  if x / 1000 = 1 then (if x % 10 = 0 ∧ x / 100 % 10 < r.2.1 ∧ x / 10 % 10 < r.2.1 ∧ ¬ x / 100 % 10 = x / 10 % 10 then some (zswp r (x / 100 % 10) (x / 10 % 10)) else none)
  else if x / 1000 = 2 then (if x % 100 = 0 ∧ x / 100 % 10 < r.2.1 then some (zrmv r (x / 100 % 10)) else none)
  else if x / 1000 = 3 then (if x / 100 % 10 < r.1 ∧ ¬ zdet r.1 (zGm r false zall) = 0 ∧ zVal (zGm r false zall) r.1 (x / 100 % 10) = (x % 100 : Nat) * zdet r.1 (zGm r false zall) then some r else none)
  else if x / 1000 = 4 then (if x % 100 = 0 ∧ zop_rank r false = x / 100 % 10 then some r else none)
  else if x / 1000 = 5 then (if x % 100 = 0 ∧ zop_doubtful r false = nI (x / 100 % 10) then some r else none)
  else if x / 1000 = 6 then (if x / 100 % 10 = 0 then some (r.1, r.2.1, x % 100, r.2.2.2.1, r.2.2.2.2) else none)
  else none
set_option maxHeartbeats 4000000 in
set_option maxRecDepth 100000 in
theorem k_X5_exchanged {E : zE} (hI : zI E) (M : zM) {r : zRo} (hr : zHr M 49 r) (i j : Nat) (hi : i < 10) (hj0 : j < 10) : zK E yX5_exchanged (.code yX5_exchanged cX5_exchanged 3 (some .boolean)) (zrm 1 24) [.ref (E.2.2.2 0), .int (nI i), .int (nI j)] M (zpi (fun v M2 => (((i < r.2.1 ∧ j < r.2.1 ∧ ¬ i = j) ∧ v = nI 1 ∧ zHr M2 49 (zswp r i j)) ∨ (¬ (i < r.2.1 ∧ j < r.2.1 ∧ ¬ i = j) ∧ v = nI 0)) ∧ zfr (fun c => 49 ≤ c ∧ c ≤ 51) M M2)) := by
  refine zK_of hI (by decide) (Nat.le_of_ble_eq_true rfl) (fun x hx ri rz rl rv => ?_)
  show zJ E x 0 [(0, .ref (E.2.2.2 0)), (1, .int (nI i)), (2, .int (nI j))] [] M
  obtain ⟨w, n, mm, cd, rd⟩ := r
  have hR : zRm M 49 w n mm cd rd := hr
  have hn8 := hR.2.2.2.2.2.1
  have hw4 := hR.2.1
  refine z_aload_n hx 0 dX5_exchanged_0 rfl rfl ?_
  refine zg_X5_2 hx zw_176 dX5_exchanged_1 ?_
  refine z_iload_n hx 1 dX5_exchanged_4 rfl rfl ?_
  refine z_callV hx (As := [.int (nI i)]) (st := []) (k_X3_has hI M zRoom_49 hR.2.2.2.2.1 hn8 (nI i)) zw_280 zy_X3_has ⟨rfl, rfl⟩ (by decide) (zOB_room zRoom_49 E) rfl rfl rfl rfl (Nat.le_of_ble_eq_true rfl) dX5_exchanged_5 ?_
  rintro _ M5 ⟨v5, rfl, q5⟩
  obtain ⟨q5, hmm⟩ := q5
  rw [hmm]
  rcases q5 with ⟨j1, hj1, ej, rfl⟩ | ⟨q5, rfl⟩
  · skip
    show zJ E x 8 _ [.int (nI 1)] _
    have hin : i < n := by
      have e2 := (nI_eq (by omega) (by omega)).mp ej
      omega
    refine z_if_eq_n (tgt := 27) hx (by decide) dX5_exchanged_8 (by decide) (fun h => absurd h (by decide)) (fun _ => ?_)
    refine z_aload_n hx 0 dX5_exchanged_11 rfl rfl ?_
    refine zg_X5_2 hx zw_176 dX5_exchanged_12 ?_
    refine z_iload_n hx 2 dX5_exchanged_15 rfl rfl ?_
    refine z_callV hx (As := [.int (nI j)]) (st := []) (k_X3_has hI M zRoom_49 hR.2.2.2.2.1 hn8 (nI j)) zw_280 zy_X3_has ⟨rfl, rfl⟩ (by decide) (zOB_room zRoom_49 E) rfl rfl rfl rfl (Nat.le_of_ble_eq_true rfl) dX5_exchanged_16 ?_
    rintro _ M16 ⟨v16, rfl, q16⟩
    obtain ⟨q16, hmm⟩ := q16
    rw [hmm]
    rcases q16 with ⟨j1, hj1, ej, rfl⟩ | ⟨q16, rfl⟩
    · skip
      show zJ E x 19 _ [.int (nI 1)] _
      have hjn : j < n := by
        have e2 := (nI_eq (by omega) (by omega)).mp ej
        omega
      refine z_if_eq_n (tgt := 27) hx (by decide) dX5_exchanged_19 (by decide) (fun h => absurd h (by decide)) (fun _ => ?_)
      refine z_iload_n hx 1 dX5_exchanged_22 rfl rfl ?_
      refine z_iload_n hx 2 dX5_exchanged_23 rfl rfl ?_
      refine z_icmp_ne_n (tgt := 29) hx (by omega) (by omega) dX5_exchanged_24 (by decide) (fun h24 => ?_) (fun h24 => ?_)
      · skip
        refine z_aload_n hx 0 dX5_exchanged_29 rfl rfl ?_
        refine zg_X5_2 hx zw_176 dX5_exchanged_30 ?_
        refine z_iload_n hx 1 dX5_exchanged_33 rfl rfl ?_
        refine z_iload_n hx 2 dX5_exchanged_34 rfl rfl ?_
        refine z_callV hx (As := [.int (nI i), .int (nI j)]) (st := []) (k_X3_exchange hI M zRoom_49 (i := i) (j := j) (by omega) (by omega) h24) zw_325 zy_X3_exchange ⟨rfl, rfl⟩ (by decide) (zOB_room zRoom_49 E) rfl rfl rfl rfl (Nat.le_of_ble_eq_true rfl) dX5_exchanged_35 ?_
        rintro _ M35 ⟨rfl, q35⟩
        subst q35
        show zJ E x 38 _ [] _
        refine z_iconst hx (v := nI 1) dX5_exchanged_38 (by decide +kernel) ?_
        exact rz _ _ _ _ rfl (Or.inr rfl) ⟨_, rfl, ⟨Or.inl ⟨⟨hin, hjn, h24⟩, rfl, zRm_exch hR hin hjn h24⟩, zfr_tr (zfr_tr (zfr_tr (zfr_putI (by omega)) (zfr_putI (by omega))) (zfr_putI (by omega))) (zfr_putI (by omega))⟩⟩ dX5_exchanged_39
      · skip
        refine z_iconst hx (v := nI 0) dX5_exchanged_27 (by decide +kernel) ?_
        exact rz _ _ _ _ rfl (Or.inl rfl) ⟨_, rfl, ⟨Or.inr ⟨by show ¬ (i < n ∧ j < n ∧ ¬ i = j); omega, rfl⟩, zfr_rf _ _⟩⟩ dX5_exchanged_28
    · skip
      show zJ E x 19 _ [.int (nI 0)] _
      have hjn : ¬ j < n := fun z => zin_n z hn8 q16
      refine z_if_eq_n (tgt := 27) hx (by decide) dX5_exchanged_19 (by decide) (fun _ => ?_) (fun h => absurd h (by decide))
      refine z_iconst hx (v := nI 0) dX5_exchanged_27 (by decide +kernel) ?_
      exact rz _ _ _ _ rfl (Or.inl rfl) ⟨_, rfl, ⟨Or.inr ⟨by show ¬ (i < n ∧ j < n ∧ ¬ i = j); omega, rfl⟩, zfr_rf _ _⟩⟩ dX5_exchanged_28
  · skip
    show zJ E x 8 _ [.int (nI 0)] _
    have hin : ¬ i < n := fun z => zin_n z hn8 q5
    refine z_if_eq_n (tgt := 27) hx (by decide) dX5_exchanged_8 (by decide) (fun _ => ?_) (fun h => absurd h (by decide))
    refine z_iconst hx (v := nI 0) dX5_exchanged_27 (by decide +kernel) ?_
    exact rz _ _ _ _ rfl (Or.inl rfl) ⟨_, rfl, ⟨Or.inr ⟨by show ¬ (i < n ∧ j < n ∧ ¬ i = j); omega, rfl⟩, zfr_rf _ _⟩⟩ dX5_exchanged_28
set_option maxHeartbeats 4000000 in
set_option maxRecDepth 100000 in
theorem k_X5_removed {E : zE} (hI : zI E) (M : zM) {r : zRo} (hr : zHr M 49 r) (i : Nat) (hi : i < 10) : zK E yX5_removed (.code yX5_removed cX5_removed 2 (some .boolean)) (zrm 1 22) [.ref (E.2.2.2 0), .int (nI i)] M (zpi (fun v M2 => ((i < r.2.1 ∧ v = nI 1 ∧ zHr M2 49 (zrmv r i)) ∨ (¬ i < r.2.1 ∧ v = nI 0)) ∧ zfr (fun c => 49 ≤ c ∧ c ≤ 51) M M2)) := by
  refine zK_of hI (by decide) (Nat.le_of_ble_eq_true rfl) (fun x hx ri rz rl rv => ?_)
  show zJ E x 0 [(0, .ref (E.2.2.2 0)), (1, .int (nI i))] [] M
  obtain ⟨w, n, mm, cd, rd⟩ := r
  have hR : zRm M 49 w n mm cd rd := hr
  have hn8 := hR.2.2.2.2.2.1
  have hw4 := hR.2.1
  refine z_aload_n hx 0 dX5_removed_0 rfl rfl ?_
  refine zg_X5_2 hx zw_176 dX5_removed_1 ?_
  refine z_iload_n hx 1 dX5_removed_4 rfl rfl ?_
  refine z_callV hx (As := [.int (nI i)]) (st := []) (k_X3_has hI M zRoom_49 hR.2.2.2.2.1 hn8 (nI i)) zw_280 zy_X3_has ⟨rfl, rfl⟩ (by decide) (zOB_room zRoom_49 E) rfl rfl rfl rfl (Nat.le_of_ble_eq_true rfl) dX5_removed_5 ?_
  rintro _ M5 ⟨v5, rfl, q5⟩
  obtain ⟨q5, hmm⟩ := q5
  rw [hmm]
  rcases q5 with ⟨j1, hj1, ej, rfl⟩ | ⟨q5, rfl⟩
  · skip
    show zJ E x 8 _ [.int (nI 1)] _
    have hin : i < n := by
      have e2 := (nI_eq (by omega) (by omega)).mp ej
      omega
    refine z_if_ne_n (tgt := 13) hx (by decide) dX5_removed_8 (by decide) (fun _ => ?_) (fun h => absurd h (by decide))
    refine z_aload_n hx 0 dX5_removed_13 rfl rfl ?_
    refine zg_X5_2 hx zw_176 dX5_removed_14 ?_
    refine z_iload_n hx 1 dX5_removed_17 rfl rfl ?_
    refine z_callV hx (As := [.int (nI i)]) (st := []) (k_X3_remove hI M zRoom_49 hR.2.2.2.2.1 hn8 hin) zw_317 zy_X3_remove ⟨rfl, rfl⟩ (by decide) (zOB_room zRoom_49 E) rfl rfl rfl rfl (Nat.le_of_ble_eq_true rfl) dX5_removed_18 ?_
    rintro _ M18 ⟨rfl, q18⟩
    subst q18
    show zJ E x 21 _ [] _
    refine z_iconst hx (v := nI 1) dX5_removed_21 (by decide +kernel) ?_
    exact rz _ _ _ _ rfl (Or.inr rfl) ⟨_, rfl, ⟨Or.inl ⟨hin, rfl, zRm_remove hR hin⟩, zfr_tr (zfr_tr (zfr_setI (by omega)) (zfr_setI (by omega))) (zfr_putI (by omega))⟩⟩ dX5_removed_22
  · skip
    show zJ E x 8 _ [.int (nI 0)] _
    have hin : ¬ i < n := fun z => zin_n z hn8 q5
    refine z_if_ne_n (tgt := 13) hx (by decide) dX5_removed_8 (by decide) (fun h => absurd h (by decide)) (fun _ => ?_)
    refine z_iconst hx (v := nI 0) dX5_removed_11 (by decide +kernel) ?_
    exact rz _ _ _ _ rfl (Or.inl rfl) ⟨_, rfl, ⟨Or.inr ⟨hin, rfl⟩, zfr_rf _ _⟩⟩ dX5_removed_12
set_option maxHeartbeats 4000000 in
set_option maxRecDepth 100000 in
theorem k_X5_masterSet {E : zE} (hI : zI E) (M : zM) {r : zRo} (hr : zHr M 49 r) (m : Nat) (hm : m ≤ 99) : zK E yX5_masterSet (.code yX5_masterSet cX5_masterSet 2 (some .boolean)) (zrm 0 0) [.ref (E.2.2.2 0), .int (nI m)] M (zpi (fun v M2 => v = nI 1 ∧ zHr M2 49 (r.1, r.2.1, m, r.2.2.2.1, r.2.2.2.2) ∧ zfr (fun c => 49 ≤ c ∧ c ≤ 51) M M2)) := by
  refine zK_of hI (by decide) (Nat.le_of_ble_eq_true rfl) (fun x hx ri rz rl rv => ?_)
  show zJ E x 0 [(0, .ref (E.2.2.2 0)), (1, .int (nI m))] [] M
  obtain ⟨w, n, mm, cd, rd⟩ := r
  have hR : zRm M 49 w n mm cd rd := hr
  have hn8 := hR.2.2.2.2.2.1
  have hw4 := hR.2.1
  refine z_aload_n hx 0 dX5_masterSet_0 rfl rfl ?_
  refine zg_X5_2 hx zw_176 dX5_masterSet_1 ?_
  refine z_iload_n hx 1 dX5_masterSet_4 rfl rfl ?_
  refine zp_X3_1 hx zRoom_49 zw_83 dX5_masterSet_5 ?_
  refine z_iconst hx (v := nI 1) dX5_masterSet_8 (by decide +kernel) ?_
  exact rz _ _ _ _ rfl (Or.inr rfl) ⟨_, rfl, ⟨rfl, zRm_master hR hm, zfr_putI (by omega)⟩⟩ dX5_masterSet_9
theorem zop_rank_le {r : zRo} (hv : zVr r) (d : Bool) : zop_rank r d ≤ zunk r.1 d := (zrkS_ok (cols := zunk r.1 d) (vs := zvs r d) (n := r.2.1) (fun t ht => zLn_ab (t := t) (hv.2.2.2 t ht).1 (by have := hv.2.2.1; omega))).1
set_option maxHeartbeats 4000000 in
set_option maxRecDepth 100000 in
theorem k_X5_holds {E : zE} (hI : zI E) (hth : zTheory) (M : zM) {r : zRo} (hr : zHr M 49 r) (y : Nat) (hy : y < 10000) : zK E yX5_holds (.code yX5_holds cX5_holds 6 (some .boolean)) (zrm 5 127) [.ref (E.2.2.2 0), .int (nI y)] M (zpi (fun v M2 => ((∃ r2, zdo r y = some r2 ∧ v = nI 1 ∧ zHr M2 49 r2) ∨ (zdo r y = none ∧ v = nI 0)) ∧ zfr (fun c => c = 7 ∨ c = 10 ∨ c = 13 ∨ 15 ≤ c ∧ c ≤ 31 ∨ 49 ≤ c ∧ c ≤ 51) M M2)) := by
  refine zK_of hI (by decide) (Nat.le_of_ble_eq_true rfl) (fun x hx ri rz rl rv => ?_)
  show zJ E x 0 [(0, .ref (E.2.2.2 0)), (1, .int (nI y))] [] M
  obtain ⟨w, n, mm, cd, rd⟩ := r
  have hR : zRm M 49 w n mm cd rd := hr
  have hn8 := hR.2.2.2.2.2.1
  have hw4 := hR.2.1
  refine z_iload_n hx 1 dX5_holds_0 rfl rfl ?_
  refine z_bipush hx (v := nI 100) dX5_holds_1 (by decide +kernel) ?_
  refine z_idiv_n hx (by omega) (by omega) (by omega) dX5_holds_3 ?_
  refine z_bipush hx (v := nI 10) dX5_holds_4 (by decide +kernel) ?_
  refine z_irem_n hx (by omega) (by omega) (by omega) dX5_holds_6 ?_
  refine z_istore_n hx (lv2 := [(2, .int (nI ((y / 100) % 10))), (0, .ref (E.2.2.2 0)), (1, .int (nI y))]) dX5_holds_7 rfl (by decide) rfl ?_
  refine z_iload_n hx 2 dX5_holds_8 rfl rfl ?_
  refine z_bipush hx (v := nI 10) dX5_holds_9 (by decide +kernel) ?_
  refine z_idiv_n hx (by omega) (by omega) (by omega) dX5_holds_11 ?_
  refine z_bipush hx (v := nI 10) dX5_holds_12 (by decide +kernel) ?_
  refine z_irem_n hx (by omega) (by omega) (by omega) dX5_holds_14 ?_
  refine z_istore_n hx (lv2 := [(3, .int (nI ((y / 10) % 10))), (2, .int (nI ((y / 100) % 10))), (0, .ref (E.2.2.2 0)), (1, .int (nI y))]) dX5_holds_15 rfl (by decide) rfl ?_
  refine z_iload_n hx 3 dX5_holds_16 rfl rfl ?_
  refine z_bipush hx (v := nI 10) dX5_holds_17 (by decide +kernel) ?_
  refine z_irem_n hx (by omega) (by omega) (by omega) dX5_holds_19 ?_
  refine z_istore hx (lv2 := [(4, .int (nI (y % 10))), (3, .int (nI ((y / 10) % 10))), (2, .int (nI ((y / 100) % 10))), (0, .ref (E.2.2.2 0)), (1, .int (nI y))]) dX5_holds_20 (by decide) rfl ?_
  refine z_iload_n hx 4 dX5_holds_22 rfl rfl ?_
  refine z_bipush hx (v := nI 100) dX5_holds_23 (by decide +kernel) ?_
  refine z_irem_n hx (by omega) (by omega) (by omega) dX5_holds_25 ?_
  refine z_istore hx (lv2 := [(5, .int (nI (y % 100))), (4, .int (nI (y % 10))), (3, .int (nI ((y / 10) % 10))), (2, .int (nI ((y / 100) % 10))), (0, .ref (E.2.2.2 0)), (1, .int (nI y))]) dX5_holds_26 (by decide) rfl ?_
  refine z_iload_n hx 5 dX5_holds_28 rfl rfl ?_
  refine z_sipush hx (v := nI 1000) dX5_holds_29 (by decide +kernel) ?_
  refine z_idiv_n hx (by omega) (by omega) (by omega) dX5_holds_32 ?_
  have hti : (nI (y / 1000)).toInt = ((y / 1000 : Nat) : Int) := nI_toInt (by omega)
  by_cases hsw : (nI (y / 1000)).toInt < 1 ∨ 6 < (nI (y / 1000)).toInt
  · skip
    refine z_tableOut (tgt := 239) hx dX5_holds_33 hsw (by decide) ?_
    refine z_iconst hx (v := nI 0) dX5_holds_239 (by decide +kernel) ?_
    exact rz _ _ _ _ rfl (Or.inl rfl) ⟨_, rfl, ⟨Or.inr ⟨by unfold zdo; dsimp only; rw [if_neg (by omega), if_neg (by omega), if_neg (by omega), if_neg (by omega), if_neg (by omega), if_neg (by omega)], rfl⟩, zfr_rf _ _⟩⟩ dX5_holds_240
  by_cases hs0 : (nI (y / 1000)).toInt = 1
  · skip
    refine z_tableIn (off := 39) (tgt := 72) hx dX5_holds_33 (by omega) (by omega) (by rw [hs0]; rfl) (by decide) ?_
    refine z_iload hx 1 dX5_holds_72 rfl ?_
    refine z_if_ne_n (tgt := 90) hx (by omega) dX5_holds_74 (by decide) (fun h74 => ?_) (fun h74 => ?_)
    · skip
      refine z_iconst hx (v := nI 0) dX5_holds_90 (by decide +kernel) ?_
      exact rz _ _ _ _ rfl (Or.inl rfl) ⟨_, rfl, ⟨Or.inr ⟨by unfold zdo; dsimp only; rw [if_pos (by omega), if_neg (fun z => by first | exact h74 z.1 | exact q80a z.2)], rfl⟩, (zfr_rf _ _)⟩⟩ dX5_holds_91
    · skip
      refine z_aload_n hx 4 dX5_holds_77 rfl rfl ?_
      refine z_iload_n hx 3 dX5_holds_78 rfl rfl ?_
      refine z_iload_n hx 2 dX5_holds_79 rfl rfl ?_
      refine z_callV hx (As := [.int (nI ((y / 100) % 10)), .int (nI ((y / 10) % 10))]) (st := []) (k_X5_exchanged hI M hr (y / 100 % 10) (y / 10 % 10) (by omega) (by omega)) zw_510 zy_X5_exchanged ⟨rfl, rfl⟩ (by decide) (zOB_X5 E) rfl rfl rfl rfl (Nat.le_of_ble_eq_true rfl) dX5_holds_80 ?_
      rintro _ M80 ⟨v80, rfl, q80⟩
      obtain ⟨q80, q80f⟩ := q80
      rcases q80 with ⟨q80a, rfl, q80⟩ | ⟨q80a, rfl⟩
      · skip
        show zJ E x 83 _ [.int (nI 1)] _
        refine z_if_eq_n (tgt := 90) hx (by decide) dX5_holds_83 (by decide) (fun h => absurd h (by decide)) (fun _ => ?_)
        refine z_iconst hx (v := nI 1) dX5_holds_86 (by decide +kernel) ?_
        refine z_goto (tgt := 91) hx dX5_holds_87 (by decide) ?_
        exact rz _ _ _ _ rfl (Or.inr rfl) ⟨_, rfl, ⟨Or.inl ⟨_, by unfold zdo; dsimp only; rw [if_pos (by omega), if_pos ⟨h74, q80a⟩], rfl, q80⟩, zfr_w q80f (fun c h => by omega)⟩⟩ dX5_holds_91
      · skip
        show zJ E x 83 _ [.int (nI 0)] _
        refine z_if_eq_n (tgt := 90) hx (by decide) dX5_holds_83 (by decide) (fun _ => ?_) (fun h => absurd h (by decide))
        refine z_iconst hx (v := nI 0) dX5_holds_90 (by decide +kernel) ?_
        exact rz _ _ _ _ rfl (Or.inl rfl) ⟨_, rfl, ⟨Or.inr ⟨by unfold zdo; dsimp only; rw [if_pos (by omega), if_neg (fun z => by first | exact h74 z.1 | exact q80a z.2)], rfl⟩, (zfr_w q80f (fun c h => by omega))⟩⟩ dX5_holds_91
  by_cases hs1 : (nI (y / 1000)).toInt = 2
  · skip
    refine z_tableIn (off := 59) (tgt := 92) hx dX5_holds_33 (by omega) (by omega) (by rw [hs1]; rfl) (by decide) ?_
    refine z_iload hx 0 dX5_holds_92 rfl ?_
    refine z_if_ne_n (tgt := 109) hx (by omega) dX5_holds_94 (by decide) (fun h94 => ?_) (fun h94 => ?_)
    · skip
      refine z_iconst hx (v := nI 0) dX5_holds_109 (by decide +kernel) ?_
      exact rz _ _ _ _ rfl (Or.inl rfl) ⟨_, rfl, ⟨Or.inr ⟨by unfold zdo; dsimp only; rw [if_neg (by omega), if_pos (by omega), if_neg (fun z => by first | exact h94 z.1 | exact q99a z.2)], rfl⟩, (zfr_rf _ _)⟩⟩ dX5_holds_110
    · skip
      refine z_aload_n hx 4 dX5_holds_97 rfl rfl ?_
      refine z_iload_n hx 3 dX5_holds_98 rfl rfl ?_
      refine z_callV hx (As := [.int (nI ((y / 100) % 10))]) (st := []) (k_X5_removed hI M hr (y / 100 % 10) (by omega)) zw_514 zy_X5_removed ⟨rfl, rfl⟩ (by decide) (zOB_X5 E) rfl rfl rfl rfl (Nat.le_of_ble_eq_true rfl) dX5_holds_99 ?_
      rintro _ M99 ⟨v99, rfl, q99⟩
      obtain ⟨q99, q99f⟩ := q99
      rcases q99 with ⟨q99a, rfl, q99⟩ | ⟨q99a, rfl⟩
      · skip
        show zJ E x 102 _ [.int (nI 1)] _
        refine z_if_eq_n (tgt := 109) hx (by decide) dX5_holds_102 (by decide) (fun h => absurd h (by decide)) (fun _ => ?_)
        refine z_iconst hx (v := nI 1) dX5_holds_105 (by decide +kernel) ?_
        refine z_goto (tgt := 110) hx dX5_holds_106 (by decide) ?_
        exact rz _ _ _ _ rfl (Or.inr rfl) ⟨_, rfl, ⟨Or.inl ⟨_, by unfold zdo; dsimp only; rw [if_neg (by omega), if_pos (by omega), if_pos ⟨h94, q99a⟩], rfl, q99⟩, zfr_w q99f (fun c h => by omega)⟩⟩ dX5_holds_110
      · skip
        show zJ E x 102 _ [.int (nI 0)] _
        refine z_if_eq_n (tgt := 109) hx (by decide) dX5_holds_102 (by decide) (fun _ => ?_) (fun h => absurd h (by decide))
        refine z_iconst hx (v := nI 0) dX5_holds_109 (by decide +kernel) ?_
        exact rz _ _ _ _ rfl (Or.inl rfl) ⟨_, rfl, ⟨Or.inr ⟨by unfold zdo; dsimp only; rw [if_neg (by omega), if_pos (by omega), if_neg (fun z => by first | exact h94 z.1 | exact q99a z.2)], rfl⟩, (zfr_w q99f (fun c h => by omega))⟩⟩ dX5_holds_110
  by_cases hs2 : (nI (y / 1000)).toInt = 3
  · skip
    refine z_tableIn (off := 78) (tgt := 111) hx dX5_holds_33 (by omega) (by omega) (by rw [hs2]; rfl) (by decide) ?_
    refine z_iload_n hx 3 dX5_holds_111 rfl rfl ?_
    refine z_aload_n hx 4 dX5_holds_112 rfl rfl ?_
    refine zg_X5_2 hx zw_176 dX5_holds_113 ?_
    refine zg_X3_0 hx zRoom_49 zw_81 dX5_holds_116 ?_
    refine z_eqi (b := nI w) hR.1 ?_
    refine z_icmp_ge_n (tgt := 164) hx (by omega) (by omega) dX5_holds_119 (by decide) (fun h119 => ?_) (fun h119 => ?_)
    · skip
      refine z_iconst hx (v := nI 0) dX5_holds_164 (by decide +kernel) ?_
      exact rz _ _ _ _ rfl (Or.inl rfl) ⟨_, rfl, ⟨Or.inr ⟨by unfold zdo; dsimp only; rw [if_neg (by omega), if_neg (by omega), if_pos (by omega), if_neg (fun z => by first | exact absurd z.1 (by omega) | exact z.2.1 hze | exact hval z.2.2)], rfl⟩, (zfr_rf _ _)⟩⟩ dX5_holds_165
    · skip
      obtain ⟨T, D, hTb0, hD1, hD2, hD3, hth5⟩ := hth (w, n, mm, cd, rd) false zall (zHr_v hr)
      have hTb : zTb (zunk w false) (zGr w mm false cd rd n (fun _ => true)) T D := hTb0
      have hD1 : D w = zdet w (zGm (w, n, mm, cd, rd) false zall) := hD1
      have hD2 : 0 ≤ D w := hD2
      have hD3 : D w ≤ 600000 := hD3
      refine z_aload_n hx 4 dX5_holds_122 rfl rfl ?_
      refine zg_X5_6 hx zw_180 dX5_holds_123 ?_
      refine z_aload_n hx 4 dX5_holds_126 rfl rfl ?_
      refine zg_X5_2 hx zw_176 dX5_holds_127 ?_
      refine z_iconst hx (v := nI 0) dX5_holds_130 (by decide +kernel) ?_
      refine z_callV hx (As := [.ref (E.2.2.2 49), .int (nI 0)]) (st := []) (k_X1_solves hI M (cd := cd) (rd := rd) zRoom_49 hR false hTb) zw_381 zy_X1_solves ⟨rfl, rfl⟩ (by decide) (zOB_X1 E) rfl rfl rfl rfl (Nat.le_of_ble_eq_true rfl) dX5_holds_131 ?_
      rintro _ M131 ⟨v131, rfl, q131⟩
      have qf131 := q131.2
      obtain ⟨q131, -⟩ := q131
      rcases q131 with ⟨rfl, q131⟩ | ⟨rfl, q131⟩
      · skip
        show zJ E x 134 _ [.int (nI 1)] _
        have hp131 : 0 < D w := q131.1
        have hne : ¬ zdet w (zGm (w, n, mm, cd, rd) false zall) = 0 := by rw [← hD1]; omega
        have hth2 := hth5 q131.1
        refine z_if_eq_n (tgt := 164) hx (by decide) dX5_holds_134 (by decide) (fun h => absurd h (by decide)) (fun _ => ?_)
        refine z_aload_n hx 4 dX5_holds_137 rfl rfl ?_
        refine zg_X5_6 hx zw_180 dX5_holds_138 ?_
        refine z_iload_n hx 3 dX5_holds_141 rfl rfl ?_
        refine z_callV hx (As := [.int (nI ((y / 100) % 10))]) (st := []) (k_X1_valueAbove hI M131 (u := w) (i := y / 100 % 10) (T := T w) qf131.2.2.1 (by omega) (by omega) q131.2.2) zw_409 zy_X1_valueAbove ⟨rfl, rfl⟩ (by decide) (zOB_X1 E) rfl rfl rfl rfl (Nat.le_of_ble_eq_true rfl) dX5_holds_142 ?_
        rintro _ M142 ⟨v142, rfl, q142⟩
        obtain ⟨rfl, q142⟩ := q142
        rw [q142]
        show zJ E x 145 _ [.long (Int64.ofInt (T w (y / 100 % 10) w))] _
        refine z_iload hx 0 dX5_holds_145 rfl ?_
        refine z_i2l hx dX5_holds_147 ?_
        refine z_aload_n hx 4 dX5_holds_148 rfl rfl ?_
        refine zg_X5_6 hx zw_180 dX5_holds_149 ?_
        refine zg_X1_6 hx zw_138 dX5_holds_152 ?_
        refine z_eql (b := Int64.ofInt (D w)) q131.2.1 ?_
        refine z_lmul hx dX5_holds_155 ?_
        refine z_lcmp hx dX5_holds_156 ?_
        refine z_if_ne (tgt := 164) hx dX5_holds_157 (by decide) (fun h157 => ?_) (fun h157 => ?_)
        · skip
          have hvv := hth2.2.2 (y / 100 % 10) h119
          have hv1 : T w (y / 100 % 10) w = zVal (zGm (w, n, mm, cd, rd) false zall) w (y / 100 % 10) := hvv.1
          have hv2 : zab (T w (y / 100 % 10) w) 1000000000000 := hvv.2.1
          have em : (nI (y % 100)).toInt64 * Int64.ofInt (D w) = Int64.ofInt ((y % 100 : Nat) * D w) := by rw [nI_l (by omega), zlN_ofInt, zI64_mul]
          have hrm : zrg ((y % 100 : Nat) * D w) := zab_rg (zab_mul2 (a := 100) (b := 600000) (by decide) (by decide) (by unfold zab; omega) (by unfold zab; omega)) (by decide)
          have hval : ¬ zVal (zGm (w, n, mm, cd, rd) false zall) w (y / 100 % 10) = (y % 100 : Nat) * zdet w (zGm (w, n, mm, cd, rd) false zall) := fun z => h157 ((lg_cmp_eq _ _).mpr (by rw [em, hv1, z, ← hD1]))
          refine z_iconst hx (v := nI 0) dX5_holds_164 (by decide +kernel) ?_
          exact rz _ _ _ _ rfl (Or.inl rfl) ⟨_, rfl, ⟨Or.inr ⟨by unfold zdo; dsimp only; rw [if_neg (by omega), if_neg (by omega), if_pos (by omega), if_neg (fun z => by first | exact absurd z.1 (by omega) | exact z.2.1 hze | exact hval z.2.2)], rfl⟩, (zfr_w qf131.2.2.2 (fun c h => by omega))⟩⟩ dX5_holds_165
        · skip
          have hvv := hth2.2.2 (y / 100 % 10) h119
          have hv1 : T w (y / 100 % 10) w = zVal (zGm (w, n, mm, cd, rd) false zall) w (y / 100 % 10) := hvv.1
          have hv2 : zab (T w (y / 100 % 10) w) 1000000000000 := hvv.2.1
          have em : (nI (y % 100)).toInt64 * Int64.ofInt (D w) = Int64.ofInt ((y % 100 : Nat) * D w) := by rw [nI_l (by omega), zlN_ofInt, zI64_mul]
          have hrm : zrg ((y % 100 : Nat) * D w) := zab_rg (zab_mul2 (a := 100) (b := 600000) (by decide) (by decide) (by unfold zab; omega) (by unfold zab; omega)) (by decide)
          have hval : zVal (zGm (w, n, mm, cd, rd) false zall) w (y / 100 % 10) = (y % 100 : Nat) * zdet w (zGm (w, n, mm, cd, rd) false zall) := by
            have z := (lg_cmp_eq _ _).mp h157
            rw [em] at z
            have z2 := (zeq64 (zab_rg hv2 (by decide)) hrm).mp z
            rw [← hv1, z2, ← hD1]
          refine z_iconst hx (v := nI 1) dX5_holds_160 (by decide +kernel) ?_
          refine z_goto (tgt := 165) hx dX5_holds_161 (by decide) ?_
          exact rz _ _ _ _ rfl (Or.inr rfl) ⟨_, rfl, ⟨Or.inl ⟨_, by unfold zdo; dsimp only; rw [if_neg (by omega), if_neg (by omega), if_pos (by omega), if_pos ⟨h119, hne, hval⟩], rfl, (zRm_fr hR qf131.2.2.2 (by omega) (by omega) (by omega))⟩, zfr_w qf131.2.2.2 (fun c h => by omega)⟩⟩ dX5_holds_165
      · skip
        show zJ E x 134 _ [.int (nI 0)] _
        have hze : zdet w (zGm (w, n, mm, cd, rd) false zall) = 0 := by rw [← hD1]; exact q131
        refine z_if_eq_n (tgt := 164) hx (by decide) dX5_holds_134 (by decide) (fun _ => ?_) (fun h => absurd h (by decide))
        refine z_iconst hx (v := nI 0) dX5_holds_164 (by decide +kernel) ?_
        exact rz _ _ _ _ rfl (Or.inl rfl) ⟨_, rfl, ⟨Or.inr ⟨by unfold zdo; dsimp only; rw [if_neg (by omega), if_neg (by omega), if_pos (by omega), if_neg (fun z => by first | exact absurd z.1 (by omega) | exact z.2.1 hze | exact hval z.2.2)], rfl⟩, (zfr_w qf131.2.2.2 (fun c h => by omega))⟩⟩ dX5_holds_165
  by_cases hs3 : (nI (y / 1000)).toInt = 4
  · skip
    refine z_tableIn (off := 133) (tgt := 166) hx dX5_holds_33 (by omega) (by omega) (by rw [hs3]; rfl) (by decide) ?_
    refine z_iload hx 0 dX5_holds_166 rfl ?_
    refine z_if_ne_n (tgt := 191) hx (by omega) dX5_holds_168 (by decide) (fun h168 => ?_) (fun h168 => ?_)
    · skip
      refine z_iconst hx (v := nI 0) dX5_holds_191 (by decide +kernel) ?_
      exact rz _ _ _ _ rfl (Or.inl rfl) ⟨_, rfl, ⟨Or.inr ⟨by unfold zdo; dsimp only; rw [if_neg (by omega), if_neg (by omega), if_neg (by omega), if_pos (by omega), if_neg (fun z => by first | exact h168 z.1 | exact h184 z.2)], rfl⟩, (zfr_rf _ _)⟩⟩ dX5_holds_192
    · skip
      refine z_aload_n hx 4 dX5_holds_171 rfl rfl ?_
      refine zg_X5_7 hx zw_181 dX5_holds_172 ?_
      refine z_aload_n hx 4 dX5_holds_175 rfl rfl ?_
      refine zg_X5_2 hx zw_176 dX5_holds_176 ?_
      refine z_iconst hx (v := nI 0) dX5_holds_179 (by decide +kernel) ?_
      refine z_callV hx (As := [.ref (E.2.2.2 49), .int (nI 0)]) (st := []) (k_X2_ofAll hI M zRoom_49 hR false) zw_349 zy_X2_ofAll ⟨rfl, rfl⟩ (by decide) (zOB_X2 E) rfl rfl rfl rfl (Nat.le_of_ble_eq_true rfl) dX5_holds_180 ?_
      rintro _ M180 ⟨v180, rfl, q180⟩
      obtain ⟨rfl, q180⟩ := q180
      show zJ E x 183 _ [.int (nI (zop_rank (w, n, mm, cd, rd) false))] _
      have hrk : zop_rank (w, n, mm, cd, rd) false ≤ w := zop_rank_le (zHr_v hr) false
      refine z_iload_n hx 3 dX5_holds_183 rfl rfl ?_
      refine z_icmp_ne_n (tgt := 191) hx (by omega) (by omega) dX5_holds_184 (by decide) (fun h184 => ?_) (fun h184 => ?_)
      · skip
        refine z_iconst hx (v := nI 0) dX5_holds_191 (by decide +kernel) ?_
        exact rz _ _ _ _ rfl (Or.inl rfl) ⟨_, rfl, ⟨Or.inr ⟨by unfold zdo; dsimp only; rw [if_neg (by omega), if_neg (by omega), if_neg (by omega), if_pos (by omega), if_neg (fun z => by first | exact h168 z.1 | exact h184 z.2)], rfl⟩, (zfr_w q180 (fun c h => by omega))⟩⟩ dX5_holds_192
      · skip
        refine z_iconst hx (v := nI 1) dX5_holds_187 (by decide +kernel) ?_
        refine z_goto (tgt := 192) hx dX5_holds_188 (by decide) ?_
        exact rz _ _ _ _ rfl (Or.inr rfl) ⟨_, rfl, ⟨Or.inl ⟨_, by unfold zdo; dsimp only; rw [if_neg (by omega), if_neg (by omega), if_neg (by omega), if_pos (by omega), if_pos ⟨h168, h184⟩], rfl, (zRm_fr hR q180 (by omega) (by omega) (by omega))⟩, zfr_w q180 (fun c h => by omega)⟩⟩ dX5_holds_192
  by_cases hs4 : (nI (y / 1000)).toInt = 5
  · skip
    refine z_tableIn (off := 160) (tgt := 193) hx dX5_holds_33 (by omega) (by omega) (by rw [hs4]; rfl) (by decide) ?_
    refine z_iload hx 0 dX5_holds_193 rfl ?_
    refine z_if_ne_n (tgt := 218) hx (by omega) dX5_holds_195 (by decide) (fun h195 => ?_) (fun h195 => ?_)
    · skip
      refine z_iconst hx (v := nI 0) dX5_holds_218 (by decide +kernel) ?_
      exact rz _ _ _ _ rfl (Or.inl rfl) ⟨_, rfl, ⟨Or.inr ⟨by unfold zdo; dsimp only; rw [if_neg (by omega), if_neg (by omega), if_neg (by omega), if_neg (by omega), if_pos (by omega), if_neg (fun z => by first | exact h195 z.1 | exact h211 z.2)], rfl⟩, (zfr_rf _ _)⟩⟩ dX5_holds_219
    · skip
      refine z_aload_n hx 4 dX5_holds_198 rfl rfl ?_
      refine zg_X5_6 hx zw_180 dX5_holds_199 ?_
      refine z_aload_n hx 4 dX5_holds_202 rfl rfl ?_
      refine zg_X5_2 hx zw_176 dX5_holds_203 ?_
      refine z_iconst hx (v := nI 0) dX5_holds_206 (by decide +kernel) ?_
      refine z_callV hx (As := [.ref (E.2.2.2 49), .int (nI 0)]) (st := []) (kc_md hI hth M zRoom_49 hr false) zw_483 zy_X1_mostDoubtful ⟨rfl, rfl⟩ (by decide) (zOB_X1 E) rfl rfl rfl rfl (Nat.le_of_ble_eq_true rfl) dX5_holds_207 ?_
      rintro _ M207 ⟨v207, rfl, q207⟩
      obtain ⟨rfl, q207⟩ := q207
      show zJ E x 210 _ [.int (zop_doubtful (w, n, mm, cd, rd) false)] _
      refine z_iload_n hx 3 dX5_holds_210 rfl rfl ?_
      refine z_icmp_ne (tgt := 218) hx dX5_holds_211 (by decide) (fun h211 => ?_) (fun h211 => ?_)
      · skip
        refine z_iconst hx (v := nI 0) dX5_holds_218 (by decide +kernel) ?_
        exact rz _ _ _ _ rfl (Or.inl rfl) ⟨_, rfl, ⟨Or.inr ⟨by unfold zdo; dsimp only; rw [if_neg (by omega), if_neg (by omega), if_neg (by omega), if_neg (by omega), if_pos (by omega), if_neg (fun z => by first | exact h195 z.1 | exact h211 z.2)], rfl⟩, (zfr_w q207 (fun c h => by omega))⟩⟩ dX5_holds_219
      · skip
        refine z_iconst hx (v := nI 1) dX5_holds_214 (by decide +kernel) ?_
        refine z_goto (tgt := 219) hx dX5_holds_215 (by decide) ?_
        exact rz _ _ _ _ rfl (Or.inr rfl) ⟨_, rfl, ⟨Or.inl ⟨_, by unfold zdo; dsimp only; rw [if_neg (by omega), if_neg (by omega), if_neg (by omega), if_neg (by omega), if_pos (by omega), if_pos ⟨h195, h211⟩], rfl, (zRm_fr hR q207 (by omega) (by omega) (by omega))⟩, zfr_w q207 (fun c h => by omega)⟩⟩ dX5_holds_219
  have hs5 : (nI (y / 1000)).toInt = 6 := by omega
  · skip
    refine z_tableIn (off := 187) (tgt := 220) hx dX5_holds_33 (by omega) (by omega) (by rw [hs5]; rfl) (by decide) ?_
    refine z_iload_n hx 3 dX5_holds_220 rfl rfl ?_
    refine z_if_ne_n (tgt := 237) hx (by omega) dX5_holds_221 (by decide) (fun h221 => ?_) (fun h221 => ?_)
    · skip
      refine z_iconst hx (v := nI 0) dX5_holds_237 (by decide +kernel) ?_
      exact rz _ _ _ _ rfl (Or.inl rfl) ⟨_, rfl, ⟨Or.inr ⟨by unfold zdo; dsimp only; rw [if_neg (by omega), if_neg (by omega), if_neg (by omega), if_neg (by omega), if_neg (by omega), if_pos (by omega), if_neg h221], rfl⟩, (zfr_rf _ _)⟩⟩ dX5_holds_238
    · skip
      refine z_aload_n hx 4 dX5_holds_224 rfl rfl ?_
      refine z_iload hx 0 dX5_holds_225 rfl ?_
      refine z_callV hx (As := [.int (nI (y % 100))]) (st := []) (k_X5_masterSet hI M hr (y % 100) (by omega)) zw_518 zy_X5_masterSet ⟨rfl, rfl⟩ (by decide) (zOB_X5 E) rfl rfl rfl rfl (Nat.le_of_ble_eq_true rfl) dX5_holds_227 ?_
      rintro _ M227 ⟨v227, rfl, q227⟩
      have q227v := q227.1
      subst q227v
      show zJ E x 230 _ [.int (nI 1)] _
      refine z_if_eq_n (tgt := 237) hx (by decide) dX5_holds_230 (by decide) (fun h => absurd h (by decide)) (fun _ => ?_)
      refine z_iconst hx (v := nI 1) dX5_holds_233 (by decide +kernel) ?_
      refine z_goto (tgt := 238) hx dX5_holds_234 (by decide) ?_
      exact rz _ _ _ _ rfl (Or.inr rfl) ⟨_, rfl, ⟨Or.inl ⟨_, by unfold zdo; dsimp only; rw [if_neg (by omega), if_neg (by omega), if_neg (by omega), if_neg (by omega), if_neg (by omega), if_pos (by omega), if_pos h221], rfl, q227.2.1⟩, zfr_w q227.2.2 (fun c h => by omega)⟩⟩ dX5_holds_238
