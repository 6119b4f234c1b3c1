theorem zsg_p (p : Nat) : nI p = Int32.ofInt (p : Int) := rfl
set_option maxHeartbeats 4000000 in
set_option maxRecDepth 100000 in
theorem k_X3_signOf {E : zE} (hI : zI E) (M : zM) (p : Nat) (hp : p < 2 ^ 31) : zK E yX3_signOf (.code yX3_signOf cX3_signOf 1 (some .int)) (zrm 0 0) [.int (nI p)] M (zpi (fun v M2 => v = Int32.ofInt (zsgd p) ∧ M2 = M)) := by
  refine zK_of hI (by decide) (Nat.le_of_ble_eq_true rfl) (fun x hx ri rz rl rv => ?_)
  show zJ E x 0 [(0, .int (nI p))] [] M
  refine z_iload_n hx 0 dX3_signOf_0 rfl rfl ?_
  refine z_iconst hx (v := nI 2) dX3_signOf_1 (by decide +kernel) ?_
  refine z_icmp_ne_n (tgt := 9) hx (by omega) (by omega) dX3_signOf_2 (by decide) (fun h2 => ?_) (fun h2 => ?_)
  · skip
    refine z_iload_n hx 0 dX3_signOf_9 rfl rfl ?_
    exact ri _ _ _ _ rfl ⟨_, rfl, ⟨by rw [zsgd, if_neg (by omega)]; exact zsg_p _, rfl⟩⟩ dX3_signOf_10
  · skip
    refine z_iconst hx (v := (-1)) dX3_signOf_5 rfl ?_
    refine z_goto (tgt := 10) hx dX3_signOf_6 (by decide) ?_
    exact ri _ _ _ _ rfl ⟨_, rfl, ⟨by rw [zsgd, if_pos (by omega)]; rfl, rfl⟩⟩ dX3_signOf_10
set_option maxHeartbeats 4000000 in
set_option maxRecDepth 100000 in
theorem k_X3_unknowns {E : zE} (hI : zI E) (M : zM) {a w : Nat} (ha : zRoom a) (hw : M.1 a 0 = nI w) (d : Bool) : zK E yX3_unknowns (.code yX3_unknowns cX3_unknowns 2 (some .int)) (zrm 0 0) [.ref (E.2.2.2 a), .int (zdr d)] M (zpi (fun v M2 => v = nI (zunk w d) ∧ M2 = M)) := by
  refine zK_of hI (by decide) (Nat.le_of_ble_eq_true rfl) (fun x hx ri rz rl rv => ?_)
  show zJ E x 0 [(0, .ref (E.2.2.2 a)), (1, .int (zdr d))] [] M
  refine z_iload_n hx 1 dX3_unknowns_0 rfl rfl ?_
  refine z_if_eq_d (tgt := 13) hx dX3_unknowns_1 (by decide) (fun h1 => ?_) (fun h1 => ?_)
  · skip
    refine z_aload_n hx 0 dX3_unknowns_13 rfl rfl ?_
    refine zg_X3_0 hx ha zw_79 dX3_unknowns_14 ?_
    refine z_eqi hw ?_
    exact ri _ _ _ _ rfl ⟨_, rfl, ⟨by simp [zunk, *], rfl⟩⟩ dX3_unknowns_17
  · skip
    refine z_aload_n hx 0 dX3_unknowns_4 rfl rfl ?_
    refine zg_X3_0 hx ha zw_79 dX3_unknowns_5 ?_
    refine z_eqi hw ?_
    refine z_iconst hx (v := nI 1) dX3_unknowns_8 (by decide +kernel) ?_
    refine z_iadd_n hx dX3_unknowns_9 ?_
    refine z_goto (tgt := 17) hx dX3_unknowns_10 (by decide) ?_
    exact ri _ _ _ _ rfl ⟨_, rfl, ⟨by simp [zunk, *], rfl⟩⟩ dX3_unknowns_17
set_option maxHeartbeats 4000000 in
set_option maxRecDepth 100000 in
theorem k_X3_has {E : zE} (hI : zI E) (M : zM) {a n : Nat} (ha : zRoom a) (hn : M.1 a 2 = nI n) (h8 : n ≤ 8) (t : Int32) : zK E yX3_has (.code yX3_has cX3_has 2 (some .boolean)) (zrm 0 0) [.ref (E.2.2.2 a), .int t] M (zpi (fun v M2 => ((∃ j : Nat, j < n ∧ t = nI j ∧ v = nI 1) ∨ ((t < 0 ∨ nI n ≤ t) ∧ v = nI 0)) ∧ M2 = M)) := by
  refine zK_of hI (by decide) (Nat.le_of_ble_eq_true rfl) (fun x hx ri rz rl rv => ?_)
  show zJ E x 0 [(0, .ref (E.2.2.2 a)), (1, .int t)] [] M
  refine z_iload_n hx 1 dX3_has_0 rfl rfl ?_
  refine z_if_lt (tgt := 16) hx dX3_has_1 (by decide) (fun h1 => ?_) (fun h1 => ?_)
  · skip
    refine z_iconst hx (v := nI 0) dX3_has_16 (by decide +kernel) ?_
    exact rz _ _ _ _ rfl (Or.inl rfl) ⟨_, rfl, ⟨Or.inr ⟨by first | exact Or.inl h1 | exact Or.inr h9, rfl⟩, rfl⟩⟩ dX3_has_17
  · skip
    refine z_iload_n hx 1 dX3_has_4 rfl rfl ?_
    refine z_aload_n hx 0 dX3_has_5 rfl rfl ?_
    refine zg_X3_2 hx ha zw_84 dX3_has_6 ?_
    refine z_eqi hn ?_
    refine z_icmp_ge (tgt := 16) hx dX3_has_9 (by decide) (fun h9 => ?_) (fun h9 => ?_)
    · skip
      refine z_iconst hx (v := nI 0) dX3_has_16 (by decide +kernel) ?_
      exact rz _ _ _ _ rfl (Or.inl rfl) ⟨_, rfl, ⟨Or.inr ⟨by first | exact Or.inl h1 | exact Or.inr h9, rfl⟩, rfl⟩⟩ dX3_has_17
    · skip
      refine z_iconst hx (v := nI 1) dX3_has_12 (by decide +kernel) ?_
      refine z_goto (tgt := 17) hx dX3_has_13 (by decide) ?_
      exact rz _ _ _ _ rfl (Or.inr rfl) ⟨_, rfl, ⟨Or.inl (by obtain ⟨j, hj, e⟩ := zix (by omega) h1 h9; exact ⟨j, hj, e, rfl⟩), rfl⟩⟩ dX3_has_17
