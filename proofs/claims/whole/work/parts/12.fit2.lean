/-- the table's entry of p and j, kept above its diagonal -/
def zsym (M : zM) (p j : Nat) : Int64 := if j < p then M.2 (21 + 1 * j) p else M.2 (21 + 1 * p) j
def zswn (M : zM) (r p : Nat) (over bl : Int64) (j : Nat) : Int64 := (M.2 (21 + 1 * r) j * over - zsym M p r * zsym M p j) / bl
def zswg (M : zM) (r p : Nat) (over bl : Int64) (c2 : Nat) : Nat → Int64 := fun j => if r ≤ j ∧ j < c2 ∧ ¬ j = p then zswn M r p over bl j else M.2 (21 + 1 * r) j
theorem zswg_0 (M : zM) (r p : Nat) (over bl : Int64) : zswg M r p over bl r = M.2 (21 + 1 * r) := by
  funext j
  unfold zswg
  rw [if_neg (by omega)]
theorem zswg_s {M : zM} {r p : Nat} {over bl : Int64} {c2 : Nat} (h : r ≤ c2) (hp : ¬ c2 = p) : vp_updL (zswg M r p over bl c2) c2 (zswn M r p over bl c2) = zswg M r p over bl (c2 + 1) := by
  funext j
  unfold zswg vp_updL
  by_cases e : j = c2
  · subst e
    rw [if_pos rfl, if_pos ⟨h, Nat.lt_succ_self _, hp⟩]
  · rw [if_neg e]
    show (if r ≤ j ∧ j < c2 ∧ ¬ j = p then zswn M r p over bl j else M.2 (21 + 1 * r) j) = _
    by_cases q : r ≤ j ∧ j < c2 ∧ ¬ j = p
    · rw [if_pos q, if_pos ⟨q.1, by omega, q.2.2⟩]
    · rw [if_neg q, if_neg (fun z => q ⟨z.1, by omega, z.2.2⟩)]
theorem zswg_p {M : zM} {r p : Nat} {over bl : Int64} {c2 : Nat} (hp : c2 = p) : zswg M r p over bl (c2 + 1) = zswg M r p over bl c2 := by
  funext j
  unfold zswg
  by_cases q : r ≤ j ∧ j < c2 ∧ ¬ j = p
  · rw [if_pos q, if_pos ⟨q.1, by omega, q.2.2⟩]
  · rw [if_neg q, if_neg (fun z => q ⟨z.1, by omega, z.2.2⟩)]
theorem zswg_at {M : zM} {r p : Nat} {over bl : Int64} {c2 j : Nat} (h : ¬ (r ≤ j ∧ j < c2 ∧ ¬ j = p)) : zswg M r p over bl c2 j = M.2 (21 + 1 * r) j := if_neg h
theorem zsw_rd {M : zM} {r p : Nat} {over bl : Int64} {c2 j : Nat} : (zsetJ M (21 + 1 * r) (zswg M r p over bl c2)).2 (21 + 1 * j) p = M.2 (21 + 1 * j) p := by
  rw [zg_setJ]
  by_cases e : 21 + 1 * j = 21 + 1 * r
  · rw [if_pos e, e]
    exact zswg_at (fun z => z.2.2 rfl)
  · rw [if_neg e]
set_option maxHeartbeats 4000000 in
set_option maxRecDepth 100000 in
theorem k_X1_sweepRow {E : zE} (hI : zI E) (M : zM) {u r p : Nat} {bl : Int64} (over : Int64) (h5 : M.1 7 5 = nI u) (hu : u ≤ 5) (hr : r ≤ u) (hp : p ≤ u) (hrp : ¬ r = p) (h6 : M.2 7 6 = bl) (hb : ¬ bl = 0) : zK E yX1_sweepRow (.code yX1_sweepRow cX1_sweepRow 10 none) (zrm 0 0) [.ref (E.2.2.2 7), .int (nI r), .int (nI p), .long over] M (zpv (fun M2 => M2 = zsetJ M (21 + 1 * r) (zswg M r p over bl (u + 1)))) := by
  refine zK_of hI (by decide) (Nat.le_of_ble_eq_true rfl) (fun x hx ri rz rl rv => ?_)
  show zJ E x 0 [(0, .ref (E.2.2.2 7)), (1, .int (nI r)), (2, .int (nI p)), (3, .long over)] [] M
  have cut24 : zJ E x 24 [(0, .ref (E.2.2.2 7)), (1, .int (nI r)), (2, .int (nI p)), (3, .long over)] [.long (zsym M p r)] M := by
    refine z_lstore hx (lv2 := [(5, .long (zsym M p r)), (0, .ref (E.2.2.2 7)), (1, .int (nI r)), (2, .int (nI p)), (3, .long over)]) dX1_sweepRow_24 (by decide) rfl ?_
    refine z_iload_n hx 2 dX1_sweepRow_26 rfl rfl ?_
    refine z_istore hx (lv2 := [(7, .int (nI r)), (5, .long (zsym M p r)), (0, .ref (E.2.2.2 7)), (1, .int (nI r)), (2, .int (nI p)), (3, .long over)]) dX1_sweepRow_27 (by decide) rfl ?_
    have loop29 : ∀ (fuel29 : Nat) (c2 : Nat) (_ : r ≤ c2) (_ : c2 ≤ u + 1), u + 1 - c2 < fuel29 → zJ E x 29 [(7, .int (nI c2)), (5, .long (zsym M p r)), (0, .ref (E.2.2.2 7)), (1, .int (nI r)), (2, .int (nI p)), (3, .long over)] [] (zsetJ M (21 + 1 * r) (zswg M r p over bl c2)) := by
      intro fuel29
      induction fuel29 with
      | zero =>
        intros; omega
      | succ fuel29 ih29 =>
        intro c2 hrc hcu hfuel29
        refine z_aload_n hx 2 dX1_sweepRow_29 rfl rfl ?_
        refine zg_X1_6 hx zw_137 dX1_sweepRow_30 ?_
        refine z_eql (zskSJ (by omega) h6) ?_
        refine z_lconst hx (v := 0) dX1_sweepRow_33 rfl ?_
        refine z_lcmp hx dX1_sweepRow_34 ?_
        refine z_if_eq (tgt := 119) hx dX1_sweepRow_35 (by decide) (fun h35 => ?_) (fun h35 => ?_)
        · skip
          exact absurd (zcmp0 h35) hb
        · skip
          refine z_iload hx 0 dX1_sweepRow_38 rfl ?_
          refine z_aload_n hx 2 dX1_sweepRow_40 rfl rfl ?_
          refine zg_X1_5 hx zw_136 dX1_sweepRow_41 ?_
          refine z_eqi (zskSJI h5) ?_
          refine z_icmp_gt_n (tgt := 119) hx (by omega) (by omega) dX1_sweepRow_44 (by decide) (fun h44 => ?_) (fun h44 => ?_)
          · skip
            exact rv _ _ _ rfl ⟨rfl, (by rw [show c2 = u + 1 by omega])⟩ dX1_sweepRow_119
          · skip
            refine z_iload hx 0 dX1_sweepRow_47 rfl ?_
            refine z_iload_n hx 4 dX1_sweepRow_49 rfl rfl ?_
            refine z_icmp_eq_n (tgt := 113) hx (by omega) (by omega) dX1_sweepRow_50 (by decide) (fun h50 => ?_) (fun h50 => ?_)
            · skip
              refine z_iinc hx (w := nI (c2 + 1)) (lv2 := [(7, .int (nI (c2 + 1))), (5, .long (zsym M p r)), (0, .ref (E.2.2.2 7)), (1, .int (nI r)), (2, .int (nI p)), (3, .long over)]) 0 dX1_sweepRow_113 rfl (z_inc _) (by decide) rfl ?_
              refine z_goto (tgt := 29) hx dX1_sweepRow_116 (by decide) ?_
              exact z_to (ih29 (c2 + 1) (by omega) (by omega) (by omega)) [0, 1, 2, 3, 4, 5] rfl (by rw [zswg_p h50])
            · skip
              refine z_iload hx 0 dX1_sweepRow_53 rfl ?_
              refine z_iload_n hx 4 dX1_sweepRow_55 rfl rfl ?_
              refine z_icmp_ge_n (tgt := 71) hx (by omega) (by omega) dX1_sweepRow_56 (by decide) (fun h56 => ?_) (fun h56 => ?_)
              · skip
                refine z_aload_n hx 2 dX1_sweepRow_71 rfl rfl ?_
                refine zg_X1_1 hx zw_132 dX1_sweepRow_72 ?_
                refine z_iload_n hx 4 dX1_sweepRow_75 rfl rfl ?_
                refine z_aald_n hx (zRA_9 E) (by omega) dX1_sweepRow_76 ?_
                refine z_iload hx 0 dX1_sweepRow_77 rfl ?_
                refine z_lald_n hx (zJA_row (by omega) (by omega) E) (by omega) dX1_sweepRow_79 ?_
                refine z_eql (zskSJ (by omega) rfl) ?_
                refine z_eql (show _ = zsym M p c2 by rw [zsym, if_neg (by omega)]) ?_
                refine z_lstore hx (lv2 := [(8, .long (zsym M p c2)), (7, .int (nI c2)), (5, .long (zsym M p r)), (0, .ref (E.2.2.2 7)), (1, .int (nI r)), (2, .int (nI p)), (3, .long over)]) dX1_sweepRow_80 (by decide) rfl ?_
                refine z_aload_n hx 3 dX1_sweepRow_82 rfl rfl ?_
                refine zg_X1_1 hx zw_132 dX1_sweepRow_83 ?_
                refine z_iload_n hx 4 dX1_sweepRow_86 rfl rfl ?_
                refine z_aald_n hx (zRA_9 E) (by omega) dX1_sweepRow_87 ?_
                refine z_iload hx 1 dX1_sweepRow_88 rfl ?_
                refine z_aload_n hx 3 dX1_sweepRow_90 rfl rfl ?_
                refine zg_X1_1 hx zw_132 dX1_sweepRow_91 ?_
                refine z_iload_n hx 4 dX1_sweepRow_94 rfl rfl ?_
                refine z_aald_n hx (zRA_9 E) (by omega) dX1_sweepRow_95 ?_
                refine z_iload hx 1 dX1_sweepRow_96 rfl ?_
                refine z_lald_n hx (zJA_row (by omega) (by omega) E) (by omega) dX1_sweepRow_98 ?_
                refine z_eql zhtSJ ?_
                refine z_eql (zswg_at (by omega)) ?_
                refine z_lload_n hx 6 dX1_sweepRow_99 rfl rfl ?_
                refine z_lmul hx dX1_sweepRow_100 ?_
                refine z_lload hx 2 dX1_sweepRow_101 rfl ?_
                refine z_lload hx 0 dX1_sweepRow_103 rfl ?_
                refine z_lmul hx dX1_sweepRow_105 ?_
                refine z_lsub hx dX1_sweepRow_106 ?_
                refine z_aload_n hx 3 dX1_sweepRow_107 rfl rfl ?_
                refine zg_X1_6 hx zw_137 dX1_sweepRow_108 ?_
                refine z_eql (zskSJ (by omega) h6) ?_
                refine z_ldiv hx dX1_sweepRow_111 hb ?_
                refine z_last_n hx (zJA_row (by omega) (by omega) E) (by omega) dX1_sweepRow_112 ?_
                refine z_iinc hx (w := nI (c2 + 1)) (lv2 := [(7, .int (nI (c2 + 1))), (8, .long (zsym M p c2)), (5, .long (zsym M p r)), (0, .ref (E.2.2.2 7)), (1, .int (nI r)), (2, .int (nI p)), (3, .long over)]) 1 dX1_sweepRow_113 rfl (z_inc _) (by decide) rfl ?_
                refine z_goto (tgt := 29) hx dX1_sweepRow_116 (by decide) ?_
                exact z_to (ih29 (c2 + 1) (by omega) (by omega) (by omega)) [0, 2, 3, 4, 5, 6] rfl (by rw [zputJ_set]; exact congrArg _ (zswg_s hrc h50))
              · skip
                refine z_aload_n hx 2 dX1_sweepRow_59 rfl rfl ?_
                refine zg_X1_1 hx zw_132 dX1_sweepRow_60 ?_
                refine z_iload hx 0 dX1_sweepRow_63 rfl ?_
                refine z_aald_n hx (zRA_9 E) (by omega) dX1_sweepRow_65 ?_
                refine z_iload_n hx 4 dX1_sweepRow_66 rfl rfl ?_
                refine z_lald_n hx (zJA_row (by omega) (by omega) E) (by omega) dX1_sweepRow_67 ?_
                refine z_eql zsw_rd ?_
                refine z_eql (show _ = zsym M p c2 by rw [zsym, if_pos h56]) ?_
                refine z_goto (tgt := 80) hx dX1_sweepRow_68 (by decide) ?_
                refine z_lstore hx (lv2 := [(8, .long (zsym M p c2)), (7, .int (nI c2)), (5, .long (zsym M p r)), (0, .ref (E.2.2.2 7)), (1, .int (nI r)), (2, .int (nI p)), (3, .long over)]) dX1_sweepRow_80 (by decide) rfl ?_
                refine z_aload_n hx 3 dX1_sweepRow_82 rfl rfl ?_
                refine zg_X1_1 hx zw_132 dX1_sweepRow_83 ?_
                refine z_iload_n hx 4 dX1_sweepRow_86 rfl rfl ?_
                refine z_aald_n hx (zRA_9 E) (by omega) dX1_sweepRow_87 ?_
                refine z_iload hx 1 dX1_sweepRow_88 rfl ?_
                refine z_aload_n hx 3 dX1_sweepRow_90 rfl rfl ?_
                refine zg_X1_1 hx zw_132 dX1_sweepRow_91 ?_
                refine z_iload_n hx 4 dX1_sweepRow_94 rfl rfl ?_
                refine z_aald_n hx (zRA_9 E) (by omega) dX1_sweepRow_95 ?_
                refine z_iload hx 1 dX1_sweepRow_96 rfl ?_
                refine z_lald_n hx (zJA_row (by omega) (by omega) E) (by omega) dX1_sweepRow_98 ?_
                refine z_eql zhtSJ ?_
                refine z_eql (zswg_at (by omega)) ?_
                refine z_lload_n hx 6 dX1_sweepRow_99 rfl rfl ?_
                refine z_lmul hx dX1_sweepRow_100 ?_
                refine z_lload hx 2 dX1_sweepRow_101 rfl ?_
                refine z_lload hx 0 dX1_sweepRow_103 rfl ?_
                refine z_lmul hx dX1_sweepRow_105 ?_
                refine z_lsub hx dX1_sweepRow_106 ?_
                refine z_aload_n hx 3 dX1_sweepRow_107 rfl rfl ?_
                refine zg_X1_6 hx zw_137 dX1_sweepRow_108 ?_
                refine z_eql (zskSJ (by omega) h6) ?_
                refine z_ldiv hx dX1_sweepRow_111 hb ?_
                refine z_last_n hx (zJA_row (by omega) (by omega) E) (by omega) dX1_sweepRow_112 ?_
                refine z_iinc hx (w := nI (c2 + 1)) (lv2 := [(7, .int (nI (c2 + 1))), (8, .long (zsym M p c2)), (5, .long (zsym M p r)), (0, .ref (E.2.2.2 7)), (1, .int (nI r)), (2, .int (nI p)), (3, .long over)]) 1 dX1_sweepRow_113 rfl (z_inc _) (by decide) rfl ?_
                refine z_goto (tgt := 29) hx dX1_sweepRow_116 (by decide) ?_
                exact z_to (ih29 (c2 + 1) (by omega) (by omega) (by omega)) [0, 2, 3, 4, 5, 6] rfl (by rw [zputJ_set]; exact congrArg _ (zswg_s hrc h50))
    exact z_to (loop29 _ r (Nat.le_refl _) (by omega) (Nat.lt_succ_self _)) [0, 1, 2, 3, 4, 5] rfl (by rw [zswg_0, zsetJ_self])
  show zJ E x 0 [(0, .ref (E.2.2.2 7)), (1, .int (nI r)), (2, .int (nI p)), (3, .long over)] [] M
  refine z_iload_n hx 1 dX1_sweepRow_0 rfl rfl ?_
  refine z_iload_n hx 2 dX1_sweepRow_1 rfl rfl ?_
  refine z_icmp_ge_n (tgt := 16) hx (by omega) (by omega) dX1_sweepRow_2 (by decide) (fun h2 => ?_) (fun h2 => ?_)
  · skip
    refine z_aload_n hx 0 dX1_sweepRow_16 rfl rfl ?_
    refine zg_X1_1 hx zw_132 dX1_sweepRow_17 ?_
    refine z_iload_n hx 2 dX1_sweepRow_20 rfl rfl ?_
    refine z_aald_n hx (zRA_9 E) (by omega) dX1_sweepRow_21 ?_
    refine z_iload_n hx 1 dX1_sweepRow_22 rfl rfl ?_
    refine z_lald_n hx (zJA_row (by omega) (by omega) E) (by omega) dX1_sweepRow_23 ?_
    refine z_eql (show _ = zsym M p r by rw [zsym, if_neg (by omega)]) ?_
    exact z_to cut24 [0, 1, 2, 3] rfl rfl
  · skip
    refine z_aload_n hx 0 dX1_sweepRow_5 rfl rfl ?_
    refine zg_X1_1 hx zw_132 dX1_sweepRow_6 ?_
    refine z_iload_n hx 1 dX1_sweepRow_9 rfl rfl ?_
    refine z_aald_n hx (zRA_9 E) (by omega) dX1_sweepRow_10 ?_
    refine z_iload_n hx 2 dX1_sweepRow_11 rfl rfl ?_
    refine z_lald_n hx (zJA_row (by omega) (by omega) E) (by omega) dX1_sweepRow_12 ?_
    refine z_eql (show _ = zsym M p r by rw [zsym, if_pos h2]) ?_
    refine z_goto (tgt := 24) hx dX1_sweepRow_13 (by decide) ?_
    exact z_to cut24 [0, 1, 2, 3] rfl rfl
theorem zsym_eq {M N : zM} {p j u : Nat} (hj : j ≤ u) (hp : p ≤ u) (h : ∀ a b, a ≤ b → b ≤ u → (a = p ∨ b = p) → N.2 (21 + 1 * a) b = M.2 (21 + 1 * a) b) : zsym N p j = zsym M p j := by
  unfold zsym
  by_cases q : j < p
  · rw [if_pos q, if_pos q, h j p (by omega) hp (Or.inr rfl)]
  · rw [if_neg q, if_neg q, h p j (by omega) hj (Or.inl rfl)]
theorem zsw_step {M N M2 : zM} {u p f i : Nat} {over bl : Int64} (hu : i ≤ u) (hp : p ≤ u) (hfi : f ≤ i) (hip : ¬ i = p) (hN : ∀ a b, a ≤ b → b ≤ u → N.2 (21 + 1 * a) b = if ¬ a = p ∧ ¬ b = p ∧ f ≤ a ∧ a < i then zswn M a p over bl b else M.2 (21 + 1 * a) b) (e : M2 = zsetJ N (21 + 1 * i) (zswg N i p over bl (u + 1))) : ∀ a b, a ≤ b → b ≤ u → M2.2 (21 + 1 * a) b = if ¬ a = p ∧ ¬ b = p ∧ f ≤ a ∧ a < i + 1 then zswn M a p over bl b else M.2 (21 + 1 * a) b := by
  intro a b h1 h2
  have hs : ∀ j, j ≤ u → zsym N p j = zsym M p j := fun j hj => zsym_eq hj hp (fun a b q1 q2 q3 => by rw [hN a b q1 q2, if_neg (by omega)])
  rw [e, zg_setJ]
  by_cases ea : a = i
  · subst ea
    rw [if_pos rfl]
    unfold zswg
    by_cases eb : b = p
    · rw [if_neg (by omega), if_neg (by omega), hN a b h1 h2, if_neg (by omega)]
    · rw [if_pos ⟨h1, by omega, eb⟩, if_pos ⟨hip, eb, hfi, Nat.lt_succ_self _⟩]
      unfold zswn
      rw [hs a hu, hs b h2, hN a b h1 h2, if_neg (by omega)]
  · rw [if_neg (by omega), hN a b h1 h2]
    exact zif_cong (by omega)
set_option maxHeartbeats 4000000 in
set_option maxRecDepth 100000 in
theorem k_X1_sweep {E : zE} (hI : zI E) (M : zM) {u p f : Nat} {bl : Int64} (h5 : M.1 7 5 = nI u) (hu : u ≤ 5) (hp : p ≤ u) (hf : f ≤ u + 1) (h6 : M.2 7 6 = bl) (hb : ¬ bl = 0) : zK E yX1_sweep (.code yX1_sweep cX1_sweep 6 none) (zrm 1 29) [.ref (E.2.2.2 7), .int (nI p), .int (nI f)] M (zpv (fun M2 => M2.1 7 = M.1 7 ∧ M2.2 7 6 = M.2 (21 + 1 * p) p ∧ zfr (fun c => c = 7 ∨ 21 ≤ c ∧ c ≤ 26) M M2 ∧ ∀ a b, a ≤ b → b ≤ u → M2.2 (21 + 1 * a) b = if a = p ∧ b = p then -bl else if ¬ a = p ∧ ¬ b = p ∧ f ≤ a then zswn M a p (M.2 (21 + 1 * p) p) bl b else M.2 (21 + 1 * a) b)) := by
  refine zK_of hI (by decide) (Nat.le_of_ble_eq_true rfl) (fun x hx ri rz rl rv => ?_)
  show zJ E x 0 [(0, .ref (E.2.2.2 7)), (1, .int (nI p)), (2, .int (nI f))] [] M
  refine z_aload_n hx 0 dX1_sweep_0 rfl rfl ?_
  refine zg_X1_1 hx zw_132 dX1_sweep_1 ?_
  refine z_iload_n hx 1 dX1_sweep_4 rfl rfl ?_
  refine z_aald_n hx (zRA_9 E) (by omega) dX1_sweep_5 ?_
  refine z_iload_n hx 1 dX1_sweep_6 rfl rfl ?_
  refine z_lald_n hx (zJA_row (by omega) (by omega) E) (by omega) dX1_sweep_7 ?_
  refine z_lstore_n hx (lv2 := [(3, .long (M.2 (21 + 1 * p) p)), (0, .ref (E.2.2.2 7)), (1, .int (nI p)), (2, .int (nI f))]) dX1_sweep_8 rfl (by decide) rfl ?_
  refine z_iload_n hx 3 dX1_sweep_9 rfl rfl ?_
  refine z_istore hx (lv2 := [(5, .int (nI f)), (3, .long (M.2 (21 + 1 * p) p)), (0, .ref (E.2.2.2 7)), (1, .int (nI p)), (2, .int (nI f))]) dX1_sweep_10 (by decide) rfl ?_
  have loop12 : ∀ (fuel12 : Nat) (i : Nat) (N : zM) (_ : f ≤ i) (_ : i ≤ u + 1) (_ : N.1 7 = M.1 7) (_ : N.2 7 = M.2 7) (_ : zfr (fun c => c = 7 ∨ 21 ≤ c ∧ c ≤ 26) M N) (_ : ∀ a b, a ≤ b → b ≤ u → N.2 (21 + 1 * a) b = if ¬ a = p ∧ ¬ b = p ∧ f ≤ a ∧ a < i then zswn M a p (M.2 (21 + 1 * p) p) bl b else M.2 (21 + 1 * a) b), u + 1 - i < fuel12 → zJ E x 12 [(5, .int (nI i)), (3, .long (M.2 (21 + 1 * p) p)), (0, .ref (E.2.2.2 7)), (1, .int (nI p)), (2, .int (nI f))] [] N := by
    intro fuel12
    induction fuel12 with
    | zero =>
      intros; omega
    | succ fuel12 ih12 =>
      intro i N hfi hi hN1 hN2 hNf hNs hfuel12
      refine z_iload hx 0 dX1_sweep_12 rfl ?_
      refine z_aload_n hx 2 dX1_sweep_14 rfl rfl ?_
      refine zg_X1_5 hx zw_136 dX1_sweep_15 ?_
      refine z_eqi (show N.1 7 5 = nI u by rw [hN1]; exact h5) ?_
      refine z_icmp_gt_n (tgt := 41) hx (by omega) (by omega) dX1_sweep_18 (by decide) (fun h18 => ?_) (fun h18 => ?_)
      · skip
        refine z_aload_n hx 2 dX1_sweep_41 rfl rfl ?_
        refine zg_X1_1 hx zw_132 dX1_sweep_42 ?_
        refine z_iload_n hx 3 dX1_sweep_45 rfl rfl ?_
        refine z_aald_n hx (zRA_9 E) (by omega) dX1_sweep_46 ?_
        refine z_iload_n hx 3 dX1_sweep_47 rfl rfl ?_
        refine z_aload_n hx 2 dX1_sweep_48 rfl rfl ?_
        refine zg_X1_6 hx zw_137 dX1_sweep_49 ?_
        refine z_eql (show N.2 7 6 = bl by rw [hN2]; exact h6) ?_
        refine z_lneg hx dX1_sweep_52 ?_
        refine z_last_n hx (zJA_row (by omega) (by omega) E) (by omega) dX1_sweep_53 ?_
        refine z_aload_n hx 2 dX1_sweep_54 rfl rfl ?_
        refine z_lload_n hx 1 dX1_sweep_55 rfl rfl ?_
        refine zp_X1_6 hx zw_137 dX1_sweep_56 ?_
        exact rv _ _ _ rfl ⟨rfl, ⟨hN1, zhtJ, zfr_tr hNf (zfr_tr (zfr_putJ (Or.inr (by omega))) (zfr_putJ (Or.inl rfl))), fun a b q1 q2 => by
            rw [zg_putJ, if_neg (by omega), zg_putJ, hNs a b q1 q2]
            by_cases e : a = p ∧ b = p
            · rw [if_pos ⟨by omega, e.2⟩, if_pos e]
            · rw [if_neg (by omega), if_neg e]
              exact zif_cong (by omega)⟩⟩ dX1_sweep_59
      · skip
        refine z_iload hx 0 dX1_sweep_21 rfl ?_
        refine z_iload_n hx 3 dX1_sweep_23 rfl rfl ?_
        refine z_icmp_eq_n (tgt := 35) hx (by omega) (by omega) dX1_sweep_24 (by decide) (fun h24 => ?_) (fun h24 => ?_)
        · skip
          refine z_iinc hx (w := nI (i + 1)) (lv2 := [(5, .int (nI (i + 1))), (3, .long (M.2 (21 + 1 * p) p)), (0, .ref (E.2.2.2 7)), (1, .int (nI p)), (2, .int (nI f))]) 0 dX1_sweep_35 rfl (z_inc _) (by decide) rfl ?_
          refine z_goto (tgt := 12) hx dX1_sweep_38 (by decide) ?_
          exact z_to (ih12 (i + 1) N (by omega) (by omega) hN1 hN2 hNf (fun a b q1 q2 => by rw [hNs a b q1 q2]; exact zif_cong (by omega)) (by omega)) [0, 1, 2, 3, 4] rfl rfl
        · skip
          refine z_aload_n hx 2 dX1_sweep_27 rfl rfl ?_
          refine z_iload hx 0 dX1_sweep_28 rfl ?_
          refine z_iload_n hx 3 dX1_sweep_30 rfl rfl ?_
          refine z_lload_n hx 1 dX1_sweep_31 rfl rfl ?_
          refine z_callV hx (As := [.int (nI i), .int (nI p), .long (M.2 (21 + 1 * p) p)]) (st := []) (k_X1_sweepRow hI N (M.2 (21 + 1 * p) p) (by rw [hN1]; exact h5) hu (by omega) hp h24 (by rw [hN2]; exact h6) hb) zw_404 zy_X1_sweepRow ⟨rfl, rfl⟩ (by decide) (zOB_X1 E) rfl rfl rfl rfl (Nat.le_of_ble_eq_true rfl) dX1_sweep_32 ?_
          rintro _ M32 ⟨rfl, q32⟩
          show zJ E x 35 _ [] _
          refine z_iinc hx (w := nI (i + 1)) (lv2 := [(5, .int (nI (i + 1))), (3, .long (M.2 (21 + 1 * p) p)), (0, .ref (E.2.2.2 7)), (1, .int (nI p)), (2, .int (nI f))]) 0 dX1_sweep_35 rfl (z_inc _) (by decide) rfl ?_
          refine z_goto (tgt := 12) hx dX1_sweep_38 (by decide) ?_
          exact z_to (ih12 (i + 1) M32 (by omega) (by omega) (by rw [q32]; exact hN1) (by rw [q32, zg_setJ, if_neg (by omega)]; exact hN2) (zfr_tr hNf (by rw [q32]; exact zfr_setJ (Or.inr (by omega)))) (zsw_step (by omega) (by omega) hfi h24 hNs q32) (by omega)) [0, 1, 2, 3, 4] rfl rfl
  exact z_to (loop12 _ f M (Nat.le_refl _) (by omega) rfl rfl (zfr_rf _ _) (fun a b q1 q2 => by rw [if_neg (by omega)]) (Nat.lt_succ_self _)) [0, 1, 2, 3, 4] rfl rfl
