def zrg (z : Int) : Prop := -4611686018427387904 < z ∧ z < 4611686018427387904
theorem zdivx {x D : Int} (h : ¬ D = 0) (h1 : zrg (x * D)) (h2 : zrg D) : Int64.ofInt (x * D) / Int64.ofInt D = Int64.ofInt x := by
  have e1 : Int64.minValue.toInt = -9223372036854775808 := by decide +kernel
  have e2 : Int64.maxValue.toInt = 9223372036854775807 := by decide +kernel
  rw [← Int64.ofInt_tdiv (by rw [e1]; have := h1.1; omega) (by rw [e2]; have := h1.2; omega) (by rw [e1]; have := h2.1; omega) (by rw [e2]; have := h2.2; omega), Int.mul_tdiv_cancel _ h]
theorem zlt64 {a b : Int} (ha : zrg a) (hb : zrg b) : Int64.ofInt a < Int64.ofInt b ↔ a < b := by
  have e1 : Int64.minValue.toInt = -9223372036854775808 := by decide +kernel
  have e2 : Int64.maxValue.toInt = 9223372036854775807 := by decide +kernel
  exact Int64.ofInt_lt_iff_lt (by rw [e1]; have := ha.1; omega) (by rw [e2]; have := ha.2; omega) (by rw [e1]; have := hb.1; omega) (by rw [e2]; have := hb.2; omega)
theorem zeq64 {a b : Int} (ha : zrg a) (hb : zrg b) : Int64.ofInt a = Int64.ofInt b ↔ a = b := by
  refine ⟨fun h => ?_, fun h => by rw [h]⟩
  have h2 := congrArg Int64.toInt h
  rwa [Int64.toInt_ofInt_of_le (by have := ha.1; omega) (by have := ha.2; omega), Int64.toInt_ofInt_of_le (by have := hb.1; omega) (by have := hb.2; omega)] at h2
/-- a table B swept pivot by pivot, u of them: T k behind k of them, over D k -/
def zTab (u : Nat) (B : Nat → Nat → Int) (T : Nat → Nat → Nat → Int) (D : Nat → Int) : Prop := D 0 = 1 ∧ (∀ k i j, T k i j = T k j i) ∧ (∀ i j, i ≤ j → j ≤ u → T 0 i j = B i j) ∧ ∀ k, k < u → (∀ j, j ≤ k → 0 < D j) → (D (k + 1) = T k k k ∧ 0 ≤ D (k + 1) ∧ zrg (D (k + 1))) ∧ (0 < D (k + 1) → T (k + 1) k k = -D k ∧ (∀ i, i ≤ u → ¬ i = k → T (k + 1) i k = T k i k) ∧ ∀ i j, i ≤ u → j ≤ u → ¬ i = k → ¬ j = k → T (k + 1) i j * D k = T k i j * D (k + 1) - T k i k * T k j k ∧ zrg (T (k + 1) i j * D k))
theorem zTab_one {u : Nat} {B : Nat → Nat → Int} {T : Nat → Nat → Nat → Int} {D : Nat → Int} {M M2 : zM} {k : Nat} {wh : Bool} (hT : zTab u B T D) (hk : k < u) (hD : ∀ j, j ≤ k → 0 < D j) (hrg : zrg (D k)) (hpos : 0 < D (k + 1))
    (hM : ∀ i j, i ≤ j → j ≤ u → (wh = true ∨ k ≤ i) → M.2 (21 + 1 * i) j = Int64.ofInt (T k i j))
    (h2 : ∀ a b, a ≤ b → b ≤ u → M2.2 (21 + 1 * a) b = if a = k ∧ b = k then -Int64.ofInt (D k) else if ¬ a = k ∧ ¬ b = k ∧ (if wh then 0 else k + 1) ≤ a then zswn M a k (M.2 (21 + 1 * k) k) (Int64.ofInt (D k)) b else M.2 (21 + 1 * a) b) :
    ∀ i j, i ≤ j → j ≤ u → (wh = true ∨ k + 1 ≤ i) → M2.2 (21 + 1 * i) j = Int64.ofInt (T (k + 1) i j) := by
  intro i j h3 h4 h5
  obtain ⟨-, hsy, -, hst⟩ := hT
  obtain ⟨⟨d1, d2, d3⟩, d4⟩ := hst k hk hD
  obtain ⟨t1, t2, t3⟩ := d4 hpos
  rw [h2 i j h3 h4]
  by_cases e : i = k ∧ j = k
  · obtain ⟨rfl, rfl⟩ := e
    rw [if_pos ⟨rfl, rfl⟩, t1, zI64_neg]
  · rw [if_neg e]
    have hs : ∀ m, m ≤ u → (wh = true ∨ k ≤ m) → zsym M k m = Int64.ofInt (T k m k) := by
      intro m hm hw
      unfold zsym
      by_cases q : m < k
      · rw [if_pos q, hM m k (by omega) (by omega) (by rcases hw with z | z; exact Or.inl z; omega)]
      · rw [if_neg q, hM k m (by omega) hm (Or.inr (Nat.le_refl _)), hsy]
    by_cases q : i = k ∨ j = k
    · rw [if_neg (fun z => q.elim z.1 z.2.1), hM i j h3 h4 (by rcases h5 with z | z; exact Or.inl z; exact Or.inr (by omega))]
      rcases q with rfl | rfl
      · rw [hsy (i + 1) i j, t2 j h4 (fun z => e ⟨rfl, z⟩), hsy i j i]
      · rw [t2 i (by omega) (fun z => e ⟨z, rfl⟩)]
    · have q1 : ¬ i = k := fun z => q (Or.inl z)
      have q2 : ¬ j = k := fun z => q (Or.inr z)
      rw [if_pos ⟨q1, q2, by rcases h5 with z | z; (rw [z]; simp); (split <;> omega)⟩]
      unfold zswn
      have w1 : wh = true ∨ k ≤ i := by rcases h5 with z | z; exact Or.inl z; exact Or.inr (by omega)
      have w2 : wh = true ∨ k ≤ j := by rcases h5 with z | z; exact Or.inl z; exact Or.inr (by omega)
      obtain ⟨f1, f2⟩ := t3 i j (by omega) h4 q1 q2
      rw [hs i (by omega) w1, hs j h4 w2, hM i j h3 h4 w1, hM k k (Nat.le_refl _) (by omega) (Or.inr (Nat.le_refl _)), ← d1, zI64_mul, zI64_mul, zI64_sub, ← f1]
      have hk0 : ¬ D k = 0 := by have := hD k (Nat.le_refl _); omega
      exact zdivx hk0 f2 hrg
theorem zTab_rg {u : Nat} {B : Nat → Nat → Int} {T : Nat → Nat → Nat → Int} {D : Nat → Int} (hT : zTab u B T D) {k : Nat} (hk : k ≤ u) (hD : ∀ j, j < k → 0 < D j) : zrg (D k) := by
  cases k with
  | zero => rw [hT.1]; exact ⟨by decide, by decide⟩
  | succ k => exact ((hT.2.2.2 k (by omega) (fun j hj => hD j (by omega))).1).2.2
theorem zcmpgt {x : Int64} (h : 0 < lg_cmp x 0) : 0 < x := (lg_cmp_gt x 0).mp h
theorem zcmpngt {x : Int64} (h : ¬ 0 < lg_cmp x 0) : ¬ 0 < x := fun e => h ((lg_cmp_gt x 0).mpr e)
set_option maxHeartbeats 4000000 in
set_option maxRecDepth 100000 in
theorem k_X1_sweepAll {E : zE} (hI : zI E) (M : zM) {u : Nat} {B : Nat → Nat → Int} {T : Nat → Nat → Nat → Int} {D : Nat → Int} (hT : zTab u B T D) (h5 : M.1 7 5 = nI u) (hu : u ≤ 5) (hB : ∀ p q, p ≤ q → q ≤ u → M.2 (15 + 1 * p) q = Int64.ofInt (B p q)) (wh : Bool) : zK E yX1_sweepAll (.code yX1_sweepAll cX1_sweepAll 3 (some .boolean)) (zrm 2 54) [.ref (E.2.2.2 7), .int (zdr wh)] M (zpi (fun v M2 => ((v = nI 1 ∧ (∀ j, j ≤ u → 0 < D j) ∧ M2.2 7 6 = Int64.ofInt (D u) ∧ (wh = true → ∀ i j, i ≤ j → j ≤ u → M2.2 (21 + 1 * i) j = Int64.ofInt (T u i j)) ∧ M2.2 (21 + 1 * u) u = Int64.ofInt (T u u u)) ∨ (v = nI 0 ∧ ∃ k, 1 ≤ k ∧ k ≤ u ∧ (∀ j, j < k → 0 < D j) ∧ D k = 0)) ∧ M2.1 7 = M.1 7 ∧ zfr (fun c => c = 7 ∨ 21 ≤ c ∧ c ≤ 26) M M2)) := by
  refine zK_of hI (by decide) (Nat.le_of_ble_eq_true rfl) (fun x hx ri rz rl rv => ?_)
  show zJ E x 0 [(0, .ref (E.2.2.2 7)), (1, .int (zdr wh))] [] M
  refine z_iconst hx (v := nI 0) dX1_sweepAll_0 (by decide +kernel) ?_
  refine z_istore_n hx (lv2 := [(2, .int (nI 0)), (0, .ref (E.2.2.2 7)), (1, .int (zdr wh))]) dX1_sweepAll_1 rfl (by decide) rfl ?_
  have loop2 : ∀ (fuel2 : Nat) (i : Nat) (N : zM) (_ : i ≤ u + 1) (_ : N.1 7 = M.1 7) (_ : zfr (fun c => 21 ≤ c ∧ c ≤ 26) M N) (_ : ∀ p q, p < i → p ≤ q → q ≤ u → N.2 (21 + 1 * p) q = Int64.ofInt (B p q)), u + 1 - i < fuel2 → zJ E x 2 [(2, .int (nI i)), (0, .ref (E.2.2.2 7)), (1, .int (zdr wh))] [] N := by
    intro fuel2
    induction fuel2 with
    | zero =>
      intros; omega
    | succ fuel2 ih2 =>
      intro i N hi hN1 hNf hNs hfuel2
      refine z_iload_n hx 0 dX1_sweepAll_2 rfl rfl ?_
      refine z_aload_n hx 1 dX1_sweepAll_3 rfl rfl ?_
      refine zg_X1_5 hx zw_136 dX1_sweepAll_4 ?_
      refine z_eqi (show N.1 7 5 = nI u by rw [hN1]; exact h5) ?_
      refine z_icmp_gt_n (tgt := 41) hx (by omega) (by omega) dX1_sweepAll_7 (by decide) (fun h7 => ?_) (fun h7 => ?_)
      · skip
        refine z_aload_n hx 1 dX1_sweepAll_41 rfl rfl ?_
        refine z_lconst hx (v := 1) dX1_sweepAll_42 rfl ?_
        refine zp_X1_6 hx zw_137 dX1_sweepAll_43 ?_
        refine z_iconst hx (v := nI 0) dX1_sweepAll_46 (by decide +kernel) ?_
        refine z_istore_n hx (lv2 := [(2, .int (nI 0)), (0, .ref (E.2.2.2 7)), (1, .int (zdr wh))]) dX1_sweepAll_47 rfl (by decide) rfl ?_
        have loop48 : ∀ (fuel48 : Nat) (k : Nat) (N2 : zM) (_ : k ≤ u) (_ : N2.1 7 = M.1 7) (_ : zfr (fun c => c = 7 ∨ 21 ≤ c ∧ c ≤ 26) M N2) (_ : ∀ j, j ≤ k → 0 < D j) (_ : N2.2 7 6 = Int64.ofInt (D k)) (_ : ∀ i j, i ≤ j → j ≤ u → (wh = true ∨ k ≤ i) → N2.2 (21 + 1 * i) j = Int64.ofInt (T k i j)), u - k < fuel48 → zJ E x 48 [(2, .int (nI k)), (0, .ref (E.2.2.2 7)), (1, .int (zdr wh))] [] N2 := by
          intro fuel48
          induction fuel48 with
          | zero =>
            intros; omega
          | succ fuel48 ih48 =>
            intro k N2 hk hK1 hKf hKD hK6 hKs hfuel48
            refine z_iload_n hx 0 dX1_sweepAll_48 rfl rfl ?_
            refine z_aload_n hx 1 dX1_sweepAll_49 rfl rfl ?_
            refine zg_X1_5 hx zw_136 dX1_sweepAll_50 ?_
            refine z_eqi (show N2.1 7 5 = nI u by rw [hK1]; exact h5) ?_
            refine z_icmp_ge_n (tgt := 93) hx (by omega) (by omega) dX1_sweepAll_53 (by decide) (fun h53 => ?_) (fun h53 => ?_)
            · skip
              refine z_iconst hx (v := nI 1) dX1_sweepAll_93 (by decide +kernel) ?_
              exact rz _ _ _ _ rfl (Or.inr rfl) ⟨_, rfl, ⟨Or.inl ⟨rfl, fun j hj => hKD j (by omega), by rw [hK6, show k = u by omega], fun hw i j z1 z2 => by rw [hKs i j z1 z2 (Or.inl hw), show k = u by omega], by rw [hKs u u (Nat.le_refl _) (Nat.le_refl _) (Or.inr hk), show k = u by omega]⟩, hK1, hKf⟩⟩ dX1_sweepAll_94
            · skip
              refine z_aload_n hx 1 dX1_sweepAll_56 rfl rfl ?_
              refine zg_X1_1 hx zw_132 dX1_sweepAll_57 ?_
              refine z_iload_n hx 0 dX1_sweepAll_60 rfl rfl ?_
              refine z_aald_n hx (zRA_9 E) (by omega) dX1_sweepAll_61 ?_
              refine z_iload_n hx 0 dX1_sweepAll_62 rfl rfl ?_
              refine z_lald_n hx (zJA_row (by omega) (by omega) E) (by omega) dX1_sweepAll_63 ?_
              refine z_eql (hKs k k (Nat.le_refl _) (by omega) (Or.inr (Nat.le_refl _))) ?_
              refine z_lconst hx (v := 0) dX1_sweepAll_64 rfl ?_
              refine z_lcmp hx dX1_sweepAll_65 ?_
              refine z_if_gt (tgt := 71) hx dX1_sweepAll_66 (by decide) (fun h66 => ?_) (fun h66 => ?_)
              · skip
                have hst := (hT.2.2.2 k h53 hKD).1
                have hpos : 0 < D (k + 1) := by rw [hst.1]; exact (zlt64 ⟨by decide, by decide⟩ (by rw [← hst.1]; exact hst.2.2)).mp (zcmpgt h66)
                refine z_aload_n hx 1 dX1_sweepAll_71 rfl rfl ?_
                refine z_iload_n hx 0 dX1_sweepAll_72 rfl rfl ?_
                refine z_iload_n hx 2 dX1_sweepAll_73 rfl rfl ?_
                refine z_if_eq_d (tgt := 81) hx dX1_sweepAll_74 (by decide) (fun h74 => ?_) (fun h74 => ?_)
                · skip
                  have hw := h74
                  refine z_iload_n hx 0 dX1_sweepAll_81 rfl rfl ?_
                  refine z_iconst hx (v := nI 1) dX1_sweepAll_82 (by decide +kernel) ?_
                  refine z_iadd_n hx dX1_sweepAll_83 ?_
                  refine z_callV hx (As := [.int (nI k), .int (nI (k + 1))]) (st := []) (k_X1_sweep hI N2 (p := k) (f := k + 1) (by rw [hK1]; exact h5) hu (by omega) (by omega) hK6 (by have := hKD k (Nat.le_refl _); intro z; have z2 := (zeq64 (zTab_rg hT hk (fun j hj => hKD j (by omega))) (b := 0) ⟨by decide, by decide⟩).mp z; omega)) zw_400 zy_X1_sweep ⟨rfl, rfl⟩ (by decide) (zOB_X1 E) rfl rfl rfl rfl (Nat.le_of_ble_eq_true rfl) dX1_sweepAll_84 ?_
                  rintro _ M84 ⟨rfl, q84⟩
                  show zJ E x 87 _ [] _
                  refine z_iinc hx (w := nI (k + 1)) (lv2 := [(2, .int (nI (k + 1))), (0, .ref (E.2.2.2 7)), (1, .int (zdr wh))]) 0 dX1_sweepAll_87 rfl (z_inc _) (by decide) rfl ?_
                  refine z_goto (tgt := 48) hx dX1_sweepAll_90 (by decide) ?_
                  exact z_to (ih48 (k + 1) M84 (by omega) (by rw [q84.1]; exact hK1) (zfr_tr hKf q84.2.2.1) (fun j hj => by rcases Nat.lt_or_ge j (k + 1) with z | z; exact hKD j (by omega); rw [show j = k + 1 by omega]; exact hpos) (by rw [q84.2.1, hKs k k (Nat.le_refl _) (by omega) (Or.inr (Nat.le_refl _)), hst.1]) (zTab_one (wh := wh) hT h53 hKD (zTab_rg hT hk (fun j hj => hKD j (by omega))) hpos hKs (by intro a b z1 z2; rw [q84.2.2.2 a b z1 z2]; rw [hw]; simp only [Bool.false_eq_true, if_false])) (by omega)) [0, 1, 2] rfl rfl
                · skip
                  have hw := h74
                  refine z_iconst hx (v := nI 0) dX1_sweepAll_77 (by decide +kernel) ?_
                  refine z_goto (tgt := 84) hx dX1_sweepAll_78 (by decide) ?_
                  refine z_callV hx (As := [.int (nI k), .int (nI 0)]) (st := []) (k_X1_sweep hI N2 (p := k) (f := 0) (by rw [hK1]; exact h5) hu (by omega) (by omega) hK6 (by have := hKD k (Nat.le_refl _); intro z; have z2 := (zeq64 (zTab_rg hT hk (fun j hj => hKD j (by omega))) (b := 0) ⟨by decide, by decide⟩).mp z; omega)) zw_400 zy_X1_sweep ⟨rfl, rfl⟩ (by decide) (zOB_X1 E) rfl rfl rfl rfl (Nat.le_of_ble_eq_true rfl) dX1_sweepAll_84 ?_
                  rintro _ M84 ⟨rfl, q84⟩
                  show zJ E x 87 _ [] _
                  refine z_iinc hx (w := nI (k + 1)) (lv2 := [(2, .int (nI (k + 1))), (0, .ref (E.2.2.2 7)), (1, .int (zdr wh))]) 0 dX1_sweepAll_87 rfl (z_inc _) (by decide) rfl ?_
                  refine z_goto (tgt := 48) hx dX1_sweepAll_90 (by decide) ?_
                  exact z_to (ih48 (k + 1) M84 (by omega) (by rw [q84.1]; exact hK1) (zfr_tr hKf q84.2.2.1) (fun j hj => by rcases Nat.lt_or_ge j (k + 1) with z | z; exact hKD j (by omega); rw [show j = k + 1 by omega]; exact hpos) (by rw [q84.2.1, hKs k k (Nat.le_refl _) (by omega) (Or.inr (Nat.le_refl _)), hst.1]) (zTab_one (wh := wh) hT h53 hKD (zTab_rg hT hk (fun j hj => hKD j (by omega))) hpos hKs (by intro a b z1 z2; rw [q84.2.2.2 a b z1 z2]; rw [hw]; simp only [if_true])) (by omega)) [0, 1, 2] rfl rfl
              · skip
                have hst := (hT.2.2.2 k h53 hKD).1
                have hz : D (k + 1) = 0 := by
                  have h : ¬ 0 < D (k + 1) := fun q => zcmpngt h66 ((zlt64 (a := 0) ⟨by decide, by decide⟩ (by rw [← hst.1]; exact hst.2.2)).mpr (by rw [← hst.1]; exact q))
                  have := hst.2.1
                  omega
                refine z_iconst hx (v := nI 0) dX1_sweepAll_69 (by decide +kernel) ?_
                exact rz _ _ _ _ rfl (Or.inl rfl) ⟨_, rfl, ⟨Or.inr ⟨rfl, k + 1, by omega, by omega, fun j hj => hKD j (by omega), hz⟩, hK1, hKf⟩⟩ dX1_sweepAll_70
        exact z_to (loop48 _ 0 (zputJ N 7 6 1) (by omega) hN1 (zfr_tr (zfr_w hNf (fun c h => Or.inr h)) (zfr_putJ (Or.inl rfl))) (fun j hj => by rw [show j = 0 by omega, hT.1]; decide) (by rw [hT.1]; exact zhtJ) (fun p q z1 z2 z3 => by rw [zg_putJ, if_neg (by omega), hNs p q (by omega) z1 z2, hT.2.2.1 p q z1 z2]) (Nat.lt_succ_self _)) [0, 1, 2] rfl rfl
      · skip
        refine z_aload_n hx 1 dX1_sweepAll_10 rfl rfl ?_
        refine zg_X1_0 hx zw_131 dX1_sweepAll_11 ?_
        refine z_iload_n hx 0 dX1_sweepAll_14 rfl rfl ?_
        refine z_aald_n hx (zRA_8 E) (by omega) dX1_sweepAll_15 ?_
        refine z_iload_n hx 0 dX1_sweepAll_16 rfl rfl ?_
        refine z_aload_n hx 1 dX1_sweepAll_17 rfl rfl ?_
        refine zg_X1_1 hx zw_132 dX1_sweepAll_18 ?_
        refine z_iload_n hx 0 dX1_sweepAll_21 rfl rfl ?_
        refine z_aald_n hx (zRA_9 E) (by omega) dX1_sweepAll_22 ?_
        refine z_iload_n hx 0 dX1_sweepAll_23 rfl rfl ?_
        refine z_aload_n hx 1 dX1_sweepAll_24 rfl rfl ?_
        refine zg_X1_5 hx zw_136 dX1_sweepAll_25 ?_
        refine z_eqi (show N.1 7 5 = nI u by rw [hN1]; exact h5) ?_
        refine z_iconst hx (v := nI 1) dX1_sweepAll_28 (by decide +kernel) ?_
        refine z_iadd_n hx dX1_sweepAll_29 ?_
        refine z_iload_n hx 0 dX1_sweepAll_30 rfl rfl ?_
        refine z_isub_n hx (by omega) dX1_sweepAll_31 ?_
        refine z_copyl hx (c0 := 15 + 1 * i) (c1 := 21 + 1 * i) (zJA_row (by omega) (by omega) E).1 (zJA_row (by omega) (by omega) E).1 ((zJA_row (by omega) (by omega) E).2.2 _ _) (fun g => (zJA_row (by omega) (by omega) E).2.2 _ g) zw_399 (nI_pos (by omega)) (nI_pos (by omega)) (nI_pos (by omega)) (by rw [nI_clamp (by omega), nI_clamp (by omega)]; omega) (by rw [nI_clamp (by omega), nI_clamp (by omega)]; omega) (by decide) (by decide) dX1_sweepAll_32 ?_
        refine z_iinc hx (w := nI (i + 1)) (lv2 := [(2, .int (nI (i + 1))), (0, .ref (E.2.2.2 7)), (1, .int (zdr wh))]) 0 dX1_sweepAll_35 rfl (z_inc _) (by decide) rfl ?_
        refine z_goto (tgt := 2) hx dX1_sweepAll_38 (by decide) ?_
        exact z_to (ih2 (i + 1) (zsetJ N (21 + 1 * i) (va_cpy (N.2 (15 + 1 * i)) (N.2 (21 + 1 * i)) (nI i).toNatClampNeg (nI i).toNatClampNeg (nI ((u + 1) - i)).toNatClampNeg)) (by omega) hN1 (zfr_tr hNf (zfr_setJ (by omega))) (fun p q z1 z2 z3 => by
            rw [zg_setJ]
            by_cases e : p = i
            · subst e
              rw [if_pos rfl, nI_clamp (by omega), nI_clamp (by omega), va_cpy, if_pos (by omega), (hNf _ (by omega)).2, show p + (q - p) = q by omega]
              exact hB p q z2 z3
            · rw [if_neg (by omega)]
              exact hNs p q (by omega) z2 z3) (by omega)) [0, 1, 2] rfl rfl
  exact z_to (loop2 _ 0 M (by omega) rfl (zfr_rf _ _) (fun p q h => by omega) (Nat.lt_succ_self _)) [0, 1, 2] rfl rfl
