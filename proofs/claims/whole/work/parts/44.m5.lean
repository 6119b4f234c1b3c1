theorem znI_ofInt (n : Nat) : nI n = Int32.ofInt (n : Int) := Int32.ofInt_eq_ofNat.symm
theorem zpan_le2 (l : Nat) : zpan l < 2 ^ 31 := by have := zpan_le l; omega
theorem zfg_lt (tx : Nat → Nat) (p : Nat) (h : ∀ k, tx (p + k) - 48 ≤ 255) : ∀ k, k ≤ 3 → zfg tx p k < 100000
  | 0, _ => by simp [zfg]
  | 1, _ => by have := h 0; simp only [zfg]; omega
  | 2, _ => by have := h 0; have := h 1; simp only [zfg]; omega
  | 3, _ => by have := h 0; have := h 1; have := h 2; simp only [zfg]; omega
  | k + 4, hk => by omega
set_option maxHeartbeats 4000000 in
set_option maxRecDepth 100000 in
theorem k_X6_readWeighing {E : zE} (hI : zI E) (M : zM) {tx : Nat → Nat} {len : Nat} (ht : zTm M tx len) {m S : Nat} (hS : S = 4 + m * (zwt tx + 6)) (hm8 : m ≤ 8) (hp : M.1 32 3 = nI S) (hlt : S < len) (hall : ∀ j, j < S → zfit tx j) (hw5 : M.1 32 5 = nI (zwt tx)) (hm : M.1 34 1 = nI m) : zK E yX6_readWeighing (.code yX6_readWeighing cX6_readWeighing 6 (some .boolean)) (zrm 2 48) [.ref (E.2.2.2 32)] M (zpi (fun v M2 => (v = nI 1 ∧ m < 8 ∧ S + (zwt tx + 6) ≤ len ∧ (∀ j, j < S + (zwt tx + 6) → zfit tx j) ∧ M2.1 32 3 = nI (S + (zwt tx + 6)) ∧ M2.1 34 1 = nI (m + 1) ∧ M2.1 34 (2 + m) = nI (zcdT tx m) ∧ M2.1 34 (10 + m) = Int32.ofInt (zrdR tx m) ∧ (∀ i, ¬ i = 1 → ¬ i = 2 + m → ¬ i = 10 + m → M2.1 34 i = M.1 34 i) ∧ M2.1 32 5 = M.1 32 5 ∧ zfm (fun c => c = 34) (fun k => k = 3 ∨ k = 5) M M2) ∨ (v = nI 0 ∧ (∃ p, M2.1 32 3 = nI p ∧ zStk tx len p) ∧ zfm (fun c => c = 34) (fun k => k = 3 ∨ k = 5) M M2))) := by
  refine zK_of hI (by decide) (Nat.le_of_ble_eq_true rfl) (fun x hx ri rz rl rv => ?_)
  show zJ E x 0 [(0, .ref (E.2.2.2 32))] [] M
  have hL : M.1 32 2 = nI len := ht.1
  have hT := ht.2.1
  have hlen : len ≤ 90 := ht.2.2.1
  have h255 := ht.2.2.2
  have hw := zwt_in tx
  have hlS := h255 S (by omega)
  refine z_aload_n hx 0 dX6_readWeighing_0 rfl rfl ?_
  refine zg_X6_1 hx zw_577 dX6_readWeighing_1 ?_
  refine z_aload_n hx 0 dX6_readWeighing_4 rfl rfl ?_
  refine zg_X6_3 hx zw_579 dX6_readWeighing_5 ?_
  refine z_eqi (b := nI S) hp ?_
  refine z_iald_n hx (zIA_33 E) (by omega) dX6_readWeighing_8 ?_
  refine z_eqi (b := nI (tx S)) (hT S (by omega)) ?_
  refine z_bipush hx (v := nI 119) dX6_readWeighing_9 (by decide +kernel) ?_
  refine z_icmp_ne_n (tgt := 25) hx (by omega) (by omega) dX6_readWeighing_11 (by decide) (fun h11 => ?_) (fun h11 => ?_)
  · skip
    have hst : zStk tx len S := ⟨by omega, hall, fun _ z => h11 ((zfit_at (m := m) (i := 0) (p := S) (by omega) (by omega)).mp z).1, fun z => by omega⟩
    refine z_iconst hx (v := nI 0) dX6_readWeighing_25 (by decide +kernel) ?_
    exact rz _ _ _ _ rfl (Or.inl rfl) ⟨_, rfl, (Or.inr ⟨rfl, ⟨S, hp, hst⟩, zfm_rf _ _ _⟩)⟩ dX6_readWeighing_26
  · skip
    refine z_aload_n hx 0 dX6_readWeighing_14 rfl rfl ?_
    refine zg_X6_6 hx zw_582 dX6_readWeighing_15 ?_
    refine z_iconst hx (v := nI 1) dX6_readWeighing_18 (by decide +kernel) ?_
    refine z_iald_n hx (zIA_34 E) (by omega) dX6_readWeighing_19 ?_
    refine z_eqi (b := nI m) hm ?_
    refine z_bipush hx (v := nI 8) dX6_readWeighing_20 (by decide +kernel) ?_
    refine z_icmp_ne_n (tgt := 27) hx (by omega) (by omega) dX6_readWeighing_22 (by decide) (fun h22 => ?_) (fun h22 => ?_)
    · skip
      have hm7 : m < 8 := by omega
      have hfS : zfit tx S := (zfit_at (m := m) (i := 0) (p := S) (by omega) (by omega)).mpr ⟨h11, hm7⟩
      refine z_aload_n hx 0 dX6_readWeighing_27 rfl rfl ?_
      refine z_dup hx dX6_readWeighing_28 rfl ?_
      refine zg_X6_3 hx zw_579 dX6_readWeighing_29 ?_
      refine z_eqi (b := nI S) hp ?_
      refine z_iconst hx (v := nI 1) dX6_readWeighing_32 (by decide +kernel) ?_
      refine z_iadd_n hx dX6_readWeighing_33 ?_
      refine zp_X6_3 hx zw_579 dX6_readWeighing_34 ?_
      refine z_iconst hx (v := nI 0) dX6_readWeighing_37 (by decide +kernel) ?_
      refine z_istore_n hx (lv2 := [(1, .int (nI 0)), (0, .ref (E.2.2.2 32))]) dX6_readWeighing_38 rfl (by decide) rfl ?_
      refine z_iconst hx (v := nI 0) dX6_readWeighing_39 (by decide +kernel) ?_
      refine z_istore_n hx (lv2 := [(2, .int (nI 0)), (1, .int (nI 0)), (0, .ref (E.2.2.2 32))]) dX6_readWeighing_40 rfl (by decide) rfl ?_
      have loop41 : ∀ (fuel41 : Nat) (k : Nat) (_ : k ≤ zwt tx + 1) (_ : S + 1 + k ≤ len) (_ : ∀ j, j < S + 1 + k → zfit tx j), zwt tx + 2 - k < fuel41 → zJ E x 41 [(2, .int (nI k)), (1, .int (nI (zcd tx (S + 1) k))), (0, .ref (E.2.2.2 32))] [] (zputI M 32 3 (nI (S + 1 + k))) := by
        intro fuel41
        induction fuel41 with
        | zero =>
          intros; omega
        | succ fuel41 ih41 =>
          intro k hk hkl hkf hfuel41
          refine z_iload_n hx 0 dX6_readWeighing_41 rfl rfl ?_
          refine z_aload_n hx 2 dX6_readWeighing_42 rfl rfl ?_
          refine zg_X6_5 hx zw_581 dX6_readWeighing_43 ?_
          refine z_eqi (b := nI (zwt tx)) (zskK (by omega) hw5) ?_
          refine z_icmp_gt_n (tgt := 76) hx (by omega) (by omega) dX6_readWeighing_46 (by decide) (fun h46 => ?_) (fun h46 => ?_)
          · skip
            refine z_aload_n hx 2 dX6_readWeighing_76 rfl rfl ?_
            refine z_iconst hx (v := nI 0) dX6_readWeighing_77 (by decide +kernel) ?_
            refine z_callV hx (As := [.int (nI 0)]) (st := []) (k_X6_sign hI (zputI M 32 3 (nI (S + 1 + k))) (zTm_3 ht) (p := S + 1 + k) zhtI (by omega) false) zw_681 zy_X6_sign ⟨rfl, rfl⟩ (by decide) (zOB_X6 E) rfl rfl rfl rfl (Nat.le_of_ble_eq_true rfl) dX6_readWeighing_78 ?_
            rintro _ M78 ⟨v78, rfl, q78⟩
            rcases q78 with ⟨q78, qs78, rfl, rfl⟩ | ⟨q78, rfl, rfl⟩
            · skip
              show zJ E x 81 _ [.int (nI (zpan (tx (S + 1 + k))))] _
              have hzq := zpan_le (tx (S + 1 + k))
              have hok78 : zfit tx (S + 1 + k) := (zfit_at (m := m) (i := zwt tx + 2) (p := S + 1 + k) (by omega) (by omega)).mpr (by rw [if_neg (by omega), if_neg (by omega), if_pos rfl]; unfold zsgn; rcases qs78 with z | z | z; exact Or.inl z; exact Or.inr z; exact absurd z.2 (by decide))
              refine z_istore_n hx (lv2 := [(2, .int (nI (zpan (tx (S + 1 + k))))), (1, .int (nI (zcd tx (S + 1) k))), (0, .ref (E.2.2.2 32))]) dX6_readWeighing_81 rfl (by decide) rfl ?_
              refine z_iload_n hx 0 dX6_readWeighing_82 rfl rfl ?_
              refine z_bipush hx (v := (-9)) dX6_readWeighing_83 rfl ?_
              refine z_icmp_ne (tgt := 90) hx dX6_readWeighing_85 (by decide) (fun _ => ?_) (fun h => absurd h (zn9 (by omega)))
              refine z_iconst hx (v := nI 0) dX6_readWeighing_90 (by decide +kernel) ?_
              refine z_istore_n hx (lv2 := [(3, .int (nI 0)), (2, .int (nI (zpan (tx (S + 1 + k))))), (1, .int (nI (zcd tx (S + 1) k))), (0, .ref (E.2.2.2 32))]) dX6_readWeighing_91 rfl (by decide) rfl ?_
              refine z_iconst hx (v := nI 0) dX6_readWeighing_92 (by decide +kernel) ?_
              refine z_istore hx (lv2 := [(4, .int (nI 0)), (3, .int (nI 0)), (2, .int (nI (zpan (tx (S + 1 + k))))), (1, .int (nI (zcd tx (S + 1) k))), (0, .ref (E.2.2.2 32))]) dX6_readWeighing_93 (by decide) rfl ?_
              have loop95 : ∀ (fuel95 : Nat) (j : Nat) (_ : j ≤ 3) (_ : S + 1 + k + 1 + j ≤ len) (_ : ∀ i, i < S + 1 + k + 1 + j → zfit tx i), 3 - j < fuel95 → zJ E x 95 [(4, .int (nI j)), (3, .int (nI (zfg tx (S + 1 + k + 1) j))), (2, .int (nI (zpan (tx (S + 1 + k))))), (1, .int (nI (zcd tx (S + 1) k))), (0, .ref (E.2.2.2 32))] [] (zputI M 32 3 (nI (S + 1 + k + 1 + j))) := by
                intro fuel95
                induction fuel95 with
                | zero =>
                  intros; omega
                | succ fuel95 ih95 =>
                  intro j hj hjl hjf hfuel95
                  refine z_iload hx 0 dX6_readWeighing_95 rfl ?_
                  refine z_iconst hx (v := nI 3) dX6_readWeighing_97 (by decide +kernel) ?_
                  refine z_icmp_ge_n (tgt := 133) hx (by omega) (by omega) dX6_readWeighing_98 (by decide) (fun h98 => ?_) (fun h98 => ?_)
                  · skip
                    refine z_aload_n hx 4 dX6_readWeighing_133 rfl rfl ?_
                    refine zg_X6_6 hx zw_582 dX6_readWeighing_134 ?_
                    refine z_iconst hx (v := nI 2) dX6_readWeighing_137 (by decide +kernel) ?_
                    refine z_aload_n hx 4 dX6_readWeighing_138 rfl rfl ?_
                    refine zg_X6_6 hx zw_582 dX6_readWeighing_139 ?_
                    refine z_iconst hx (v := nI 1) dX6_readWeighing_142 (by decide +kernel) ?_
                    refine z_iald_n hx (zIA_34 E) (by omega) dX6_readWeighing_143 ?_
                    refine z_eqi (b := nI m) (zskI (by omega) hm) ?_
                    refine z_iadd_n hx dX6_readWeighing_144 ?_
                    refine z_iload_n hx 3 dX6_readWeighing_145 rfl rfl ?_
                    refine z_iast_n hx (zIA_34 E) (by omega) dX6_readWeighing_146 ?_
                    refine z_aload_n hx 4 dX6_readWeighing_147 rfl rfl ?_
                    refine zg_X6_6 hx zw_582 dX6_readWeighing_148 ?_
                    refine z_bipush hx (v := nI 10) dX6_readWeighing_151 (by decide +kernel) ?_
                    refine z_aload_n hx 4 dX6_readWeighing_153 rfl rfl ?_
                    refine zg_X6_6 hx zw_582 dX6_readWeighing_154 ?_
                    refine z_iconst hx (v := nI 1) dX6_readWeighing_157 (by decide +kernel) ?_
                    refine z_iald_n hx (zIA_34 E) (by omega) dX6_readWeighing_158 ?_
                    refine z_eqi (b := nI m) (zskK (by omega) (zskI (by omega) hm)) ?_
                    refine z_iadd_n hx dX6_readWeighing_159 ?_
                    refine z_iload_n hx 2 dX6_readWeighing_160 rfl rfl ?_
                    refine z_iconst hx (v := nI 1) dX6_readWeighing_161 (by decide +kernel) ?_
                    have hzp := zpan_le (tx (S + 1 + k))
                    refine z_icmp_ne_n (tgt := 169) hx (by omega) (by omega) dX6_readWeighing_162 (by decide) (fun h162 => ?_) (fun h162 => ?_)
                    · skip
                      have hval : -nI (zfg tx (S + 1 + k + 1) j) = Int32.ofInt (zrdR tx m) := by
                        rw [show j = 3 by omega, zfg_3, zrdR, show 4 + m * (zwt tx + 6) + zwt tx + 2 = S + 1 + k by omega, zrdT, if_pos (by rcases qs78 with z | z | z; exact absurd (by rw [z]; decide) h162; exact z; exact absurd z.2 (by decide))]
                        rw [znI_ofInt, Int32.ofInt_neg]
                      refine z_iload_n hx 1 dX6_readWeighing_169 rfl rfl ?_
                      refine z_ineg hx dX6_readWeighing_170 ?_
                      refine z_iast_n hx (zIA_34 E) (by omega) dX6_readWeighing_171 ?_
                      refine z_aload_n hx 4 dX6_readWeighing_172 rfl rfl ?_
                      refine zg_X6_6 hx zw_582 dX6_readWeighing_173 ?_
                      refine z_iconst hx (v := nI 1) dX6_readWeighing_176 (by decide +kernel) ?_
                      refine z_dup2_11 hx dX6_readWeighing_177 rfl rfl ?_
                      refine z_iald_n hx (zIA_34 E) (by omega) dX6_readWeighing_178 ?_
                      refine z_eqi (b := nI m) (zskK (by omega) (zskK (by omega) (zskI (by omega) hm))) ?_
                      refine z_iconst hx (v := nI 1) dX6_readWeighing_179 (by decide +kernel) ?_
                      refine z_iadd_n hx dX6_readWeighing_180 ?_
                      refine z_iast_n hx (zIA_34 E) (by omega) dX6_readWeighing_181 ?_
                      refine z_iconst hx (v := nI 1) dX6_readWeighing_182 (by decide +kernel) ?_
                      exact rz _ _ _ _ rfl (Or.inr rfl) ⟨_, rfl, (by
                          have ek : k = zwt tx + 1 := by omega
                          have ej : j = 3 := by omega
                          refine Or.inl ⟨rfl, hm7, ?_, ?_, ?_, zhtI, zskK (by omega) (zskK (by omega) (by rw [show zcdT tx m = zcd tx (S + 1) k by rw [zcdT, ek, hS]]; exact zhtI)), zskK (by omega) (zhtI.trans hval), fun i hi1 hi2 hi3 => zskK hi1 (zskK hi3 (zskK hi2 (zskI (by omega) rfl))), zskI (by omega) (zskI (by omega) (zskI (by omega) (zskK (by omega) rfl))), ?_⟩
                          · omega
                          · intro i hi
                            exact hjf i (by omega)
                          · rw [show S + (zwt tx + 6) = S + 1 + k + 1 + j by omega]
                            exact zskI (by omega) (zskI (by omega) (zskI (by omega) zhtI))
                          · exact zfm_tr (zfm_tr (zfm_tr (zfm_fI (Or.inl rfl)) (zfm_cI rfl (by omega))) (zfm_cI rfl (by omega))) (zfm_cI rfl (by omega)))⟩ dX6_readWeighing_183
                    · skip
                      have hval : nI (zfg tx (S + 1 + k + 1) j) = Int32.ofInt (zrdR tx m) := by
                        rw [show j = 3 by omega, zfg_3, zrdR, show 4 + m * (zwt tx + 6) + zwt tx + 2 = S + 1 + k by omega, zrdT, if_neg (by intro z; rw [z] at h162; exact absurd h162 (by decide))]
                        exact znI_ofInt _
                      refine z_iload_n hx 1 dX6_readWeighing_165 rfl rfl ?_
                      refine z_goto (tgt := 171) hx dX6_readWeighing_166 (by decide) ?_
                      refine z_iast_n hx (zIA_34 E) (by omega) dX6_readWeighing_171 ?_
                      refine z_aload_n hx 4 dX6_readWeighing_172 rfl rfl ?_
                      refine zg_X6_6 hx zw_582 dX6_readWeighing_173 ?_
                      refine z_iconst hx (v := nI 1) dX6_readWeighing_176 (by decide +kernel) ?_
                      refine z_dup2_11 hx dX6_readWeighing_177 rfl rfl ?_
                      refine z_iald_n hx (zIA_34 E) (by omega) dX6_readWeighing_178 ?_
                      refine z_eqi (b := nI m) (zskK (by omega) (zskK (by omega) (zskI (by omega) hm))) ?_
                      refine z_iconst hx (v := nI 1) dX6_readWeighing_179 (by decide +kernel) ?_
                      refine z_iadd_n hx dX6_readWeighing_180 ?_
                      refine z_iast_n hx (zIA_34 E) (by omega) dX6_readWeighing_181 ?_
                      refine z_iconst hx (v := nI 1) dX6_readWeighing_182 (by decide +kernel) ?_
                      exact rz _ _ _ _ rfl (Or.inr rfl) ⟨_, rfl, (by
                          have ek : k = zwt tx + 1 := by omega
                          have ej : j = 3 := by omega
                          refine Or.inl ⟨rfl, hm7, ?_, ?_, ?_, zhtI, zskK (by omega) (zskK (by omega) (by rw [show zcdT tx m = zcd tx (S + 1) k by rw [zcdT, ek, hS]]; exact zhtI)), zskK (by omega) (zhtI.trans hval), fun i hi1 hi2 hi3 => zskK hi1 (zskK hi3 (zskK hi2 (zskI (by omega) rfl))), zskI (by omega) (zskI (by omega) (zskI (by omega) (zskK (by omega) rfl))), ?_⟩
                          · omega
                          · intro i hi
                            exact hjf i (by omega)
                          · rw [show S + (zwt tx + 6) = S + 1 + k + 1 + j by omega]
                            exact zskI (by omega) (zskI (by omega) (zskI (by omega) zhtI))
                          · exact zfm_tr (zfm_tr (zfm_tr (zfm_fI (Or.inl rfl)) (zfm_cI rfl (by omega))) (zfm_cI rfl (by omega))) (zfm_cI rfl (by omega)))⟩ dX6_readWeighing_183
                  · skip
                    refine z_aload_n hx 4 dX6_readWeighing_101 rfl rfl ?_
                    refine z_iconst hx (v := nI 0) dX6_readWeighing_102 (by decide +kernel) ?_
                    refine z_bipush hx (v := nI 9) dX6_readWeighing_103 (by decide +kernel) ?_
                    refine z_callV hx (As := [.int (nI 0), .int (nI 9)]) (st := []) (k_X6_figure hI (zputI M 32 3 (nI (S + 1 + k + 1 + j))) (zTm_3 ht) (p := S + 1 + k + 1 + j) zhtI (by omega) 0 9 (by omega) (by omega)) zw_673 zy_X6_figure ⟨rfl, rfl⟩ (by decide) (zOB_X6 E) rfl rfl rfl rfl (Nat.le_of_ble_eq_true rfl) dX6_readWeighing_105 ?_
                    rintro _ M105 ⟨v105, rfl, q105⟩
                    rcases q105 with ⟨q105, qa, qb, rfl, rfl⟩ | ⟨q105, rfl, rfl⟩
                    · skip
                      show zJ E x 108 _ [.int (nI (tx (S + 1 + k + 1 + j) - 48))] _
                      have hok105 : zfit tx (S + 1 + k + 1 + j) := (zfit_at (m := m) (i := zwt tx + 3 + j) (p := S + 1 + k + 1 + j) (by omega) (by omega)).mpr (by rw [if_neg (by omega), if_neg (by omega), if_neg (by omega)]; unfold zfig; omega)
                      refine z_istore hx (lv2 := [(5, .int (nI (tx (S + 1 + k + 1 + j) - 48))), (4, .int (nI j)), (3, .int (nI (zfg tx (S + 1 + k + 1) j))), (2, .int (nI (zpan (tx (S + 1 + k))))), (1, .int (nI (zcd tx (S + 1) k))), (0, .ref (E.2.2.2 32))]) dX6_readWeighing_108 (by decide) rfl ?_
                      refine z_iload hx 0 dX6_readWeighing_110 rfl ?_
                      refine z_bipush hx (v := (-9)) dX6_readWeighing_112 rfl ?_
                      refine z_icmp_ne (tgt := 119) hx dX6_readWeighing_114 (by decide) (fun _ => ?_) (fun h => absurd h (zn9 (by omega)))
                      refine z_bipush hx (v := nI 10) dX6_readWeighing_119 (by decide +kernel) ?_
                      refine z_iload_n hx 2 dX6_readWeighing_121 rfl rfl ?_
                      refine z_imul_n hx dX6_readWeighing_122 ?_
                      refine z_iload hx 0 dX6_readWeighing_123 rfl ?_
                      refine z_iadd_n hx dX6_readWeighing_125 ?_
                      refine z_istore_n hx (lv2 := [(3, .int (nI ((10 * (zfg tx (S + 1 + k + 1) j)) + (tx (S + 1 + k + 1 + j) - 48)))), (5, .int (nI (tx (S + 1 + k + 1 + j) - 48))), (4, .int (nI j)), (2, .int (nI (zpan (tx (S + 1 + k))))), (1, .int (nI (zcd tx (S + 1) k))), (0, .ref (E.2.2.2 32))]) dX6_readWeighing_126 rfl (by decide) rfl ?_
                      refine z_iinc hx (w := nI (j + 1)) (lv2 := [(4, .int (nI (j + 1))), (3, .int (nI ((10 * (zfg tx (S + 1 + k + 1) j)) + (tx (S + 1 + k + 1 + j) - 48)))), (5, .int (nI (tx (S + 1 + k + 1 + j) - 48))), (2, .int (nI (zpan (tx (S + 1 + k))))), (1, .int (nI (zcd tx (S + 1) k))), (0, .ref (E.2.2.2 32))]) 2 dX6_readWeighing_127 rfl (z_inc _) (by decide) rfl ?_
                      refine z_goto (tgt := 95) hx dX6_readWeighing_130 (by decide) ?_
                      exact z_to (ih95 (j + 1) (by omega) (by omega) (fun i hi => by rcases Nat.lt_or_ge i (S + 1 + k + 1 + j) with z | z; exact hjf i z; rw [show i = S + 1 + k + 1 + j by omega]; exact hok105) (by omega)) [0, 1, 3, 4, 5] rfl (zputI_2 _ _ _ _ _)
                    · skip
                      show zJ E x 108 _ [.int (-9)] _
                      have hst : zStk tx len (S + 1 + k + 1 + j) := zstk_in (m := m) (i := zwt tx + 3 + j) (by omega) (by omega) (by omega) hjf (by omega) (fun z1 z2 => by
                        have z3 := (zfit_at (m := m) (i := zwt tx + 3 + j) (p := S + 1 + k + 1 + j) (by omega) (by omega)).mp z2
                        rw [if_neg (by omega), if_neg (by omega), if_neg (by omega)] at z3
                        unfold zfig at z3; exact q105 ⟨z1, by omega⟩)
                      refine z_istore hx (lv2 := [(5, .int (-9)), (4, .int (nI j)), (3, .int (nI (zfg tx (S + 1 + k + 1) j))), (2, .int (nI (zpan (tx (S + 1 + k))))), (1, .int (nI (zcd tx (S + 1) k))), (0, .ref (E.2.2.2 32))]) dX6_readWeighing_108 (by decide) rfl ?_
                      refine z_iload hx 0 dX6_readWeighing_110 rfl ?_
                      refine z_bipush hx (v := (-9)) dX6_readWeighing_112 rfl ?_
                      refine z_icmp_ne (tgt := 119) hx dX6_readWeighing_114 (by decide) (fun h => absurd rfl h) (fun _ => ?_)
                      refine z_iconst hx (v := nI 0) dX6_readWeighing_117 (by decide +kernel) ?_
                      exact rz _ _ _ _ rfl (Or.inl rfl) ⟨_, rfl, (Or.inr ⟨rfl, ⟨_, zhtI, hst⟩, zfm_fI (Or.inl rfl)⟩)⟩ dX6_readWeighing_118
              exact z_to (loop95 _ 0 (by omega) (by omega) (fun j hj => by rcases Nat.lt_or_ge j (S + 1 + k) with z | z; exact hkf j z; rw [show j = S + 1 + k by omega]; exact hok78) (Nat.lt_succ_self _)) [0, 1, 2, 3, 4] rfl (zputI_2 _ _ _ _ _)
            · skip
              show zJ E x 81 _ [.int (-9)] _
              have hst : zStk tx len (S + 1 + k) := zstk_in (m := m) (i := zwt tx + 2) (by omega) (by omega) (by omega) hkf (by omega) (fun z1 z2 => by
                have z3 := (zfit_at (m := m) (i := zwt tx + 2) (p := S + 1 + k) (by omega) (by omega)).mp z2
                rw [if_neg (by omega), if_neg (by omega), if_pos rfl] at z3
                unfold zsgn at z3; exact q78 ⟨z1, by omega⟩)
              refine z_istore_n hx (lv2 := [(2, .int (-9)), (1, .int (nI (zcd tx (S + 1) k))), (0, .ref (E.2.2.2 32))]) dX6_readWeighing_81 rfl (by decide) rfl ?_
              refine z_iload_n hx 0 dX6_readWeighing_82 rfl rfl ?_
              refine z_bipush hx (v := (-9)) dX6_readWeighing_83 rfl ?_
              refine z_icmp_ne (tgt := 90) hx dX6_readWeighing_85 (by decide) (fun h => absurd rfl h) (fun _ => ?_)
              refine z_iconst hx (v := nI 0) dX6_readWeighing_88 (by decide +kernel) ?_
              exact rz _ _ _ _ rfl (Or.inl rfl) ⟨_, rfl, (Or.inr ⟨rfl, ⟨_, zhtI, hst⟩, zfm_tr (zfm_fI (Or.inl rfl)) (zfm_fI (Or.inl rfl))⟩)⟩ dX6_readWeighing_89
          · skip
            refine z_aload_n hx 2 dX6_readWeighing_49 rfl rfl ?_
            refine z_iconst hx (v := nI 1) dX6_readWeighing_50 (by decide +kernel) ?_
            refine z_callV hx (As := [.int (nI 1)]) (st := []) (k_X6_sign hI (zputI M 32 3 (nI (S + 1 + k))) (zTm_3 ht) (p := S + 1 + k) zhtI (by omega) true) zw_681 zy_X6_sign ⟨rfl, rfl⟩ (by decide) (zOB_X6 E) rfl rfl rfl rfl (Nat.le_of_ble_eq_true rfl) dX6_readWeighing_51 ?_
            rintro _ M51 ⟨v51, rfl, q51⟩
            rcases q51 with ⟨q51, qs51, rfl, rfl⟩ | ⟨q51, rfl, rfl⟩
            · skip
              show zJ E x 54 _ [.int (nI (zpan (tx (S + 1 + k))))] _
              have hzq := zpan_le (tx (S + 1 + k))
              have hok51 : zfit tx (S + 1 + k) := (zfit_at (m := m) (i := 1 + k) (p := S + 1 + k) (by omega) (by omega)).mpr (by rw [if_neg (by omega), if_pos (by omega)]; unfold zsgn; omega)
              refine z_istore_n hx (lv2 := [(3, .int (nI (zpan (tx (S + 1 + k))))), (2, .int (nI k)), (1, .int (nI (zcd tx (S + 1) k))), (0, .ref (E.2.2.2 32))]) dX6_readWeighing_54 rfl (by decide) rfl ?_
              refine z_iload_n hx 0 dX6_readWeighing_55 rfl rfl ?_
              refine z_bipush hx (v := (-9)) dX6_readWeighing_56 rfl ?_
              refine z_icmp_ne (tgt := 63) hx dX6_readWeighing_58 (by decide) (fun _ => ?_) (fun h => absurd h (zn9 (by omega)))
              refine z_bipush hx (v := nI 10) dX6_readWeighing_63 (by decide +kernel) ?_
              refine z_iload_n hx 2 dX6_readWeighing_65 rfl rfl ?_
              refine z_imul_n hx dX6_readWeighing_66 ?_
              refine z_iload_n hx 0 dX6_readWeighing_67 rfl rfl ?_
              refine z_iadd_n hx dX6_readWeighing_68 ?_
              refine z_istore_n hx (lv2 := [(1, .int (nI ((10 * (zcd tx (S + 1) k)) + (zpan (tx (S + 1 + k)))))), (3, .int (nI (zpan (tx (S + 1 + k))))), (2, .int (nI k)), (0, .ref (E.2.2.2 32))]) dX6_readWeighing_69 rfl (by decide) rfl ?_
              refine z_iinc hx (w := nI (k + 1)) (lv2 := [(2, .int (nI (k + 1))), (1, .int (nI ((10 * (zcd tx (S + 1) k)) + (zpan (tx (S + 1 + k)))))), (3, .int (nI (zpan (tx (S + 1 + k))))), (0, .ref (E.2.2.2 32))]) 2 dX6_readWeighing_70 rfl (z_inc _) (by decide) rfl ?_
              refine z_goto (tgt := 41) hx dX6_readWeighing_73 (by decide) ?_
              exact z_to (ih41 (k + 1) (by omega) (by omega) (fun j hj => by rcases Nat.lt_or_ge j (S + 1 + k) with z | z; exact hkf j z; rw [show j = S + 1 + k by omega]; exact hok51) (by omega)) [0, 1, 3] rfl (zputI_2 _ _ _ _ _)
            · skip
              show zJ E x 54 _ [.int (-9)] _
              have hst : zStk tx len (S + 1 + k) := zstk_in (m := m) (i := 1 + k) (by omega) (by omega) (by omega) hkf (by omega) (fun z1 z2 => by
                have z3 := (zfit_at (m := m) (i := 1 + k) (p := S + 1 + k) (by omega) (by omega)).mp z2
                rw [if_neg (by omega), if_pos (by omega)] at z3
                exact q51 ⟨z1, by rcases z3 with z | z | z; exact Or.inr (Or.inr ⟨z, rfl⟩); exact Or.inl z; exact Or.inr (Or.inl z)⟩)
              refine z_istore_n hx (lv2 := [(3, .int (-9)), (2, .int (nI k)), (1, .int (nI (zcd tx (S + 1) k))), (0, .ref (E.2.2.2 32))]) dX6_readWeighing_54 rfl (by decide) rfl ?_
              refine z_iload_n hx 0 dX6_readWeighing_55 rfl rfl ?_
              refine z_bipush hx (v := (-9)) dX6_readWeighing_56 rfl ?_
              refine z_icmp_ne (tgt := 63) hx dX6_readWeighing_58 (by decide) (fun h => absurd rfl h) (fun _ => ?_)
              refine z_iconst hx (v := nI 0) dX6_readWeighing_61 (by decide +kernel) ?_
              exact rz _ _ _ _ rfl (Or.inl rfl) ⟨_, rfl, (Or.inr ⟨rfl, ⟨_, zhtI, hst⟩, zfm_tr (zfm_fI (Or.inl rfl)) (zfm_fI (Or.inl rfl))⟩)⟩ dX6_readWeighing_62
      exact z_to (loop41 _ 0 (by omega) (by omega) (fun j hj => by rcases Nat.lt_or_ge j S with z | z; exact hall j z; rw [show j = S by omega]; exact hfS) (Nat.lt_succ_self _)) [0, 1, 2] rfl rfl
    · skip
      have hst : zStk tx len S := ⟨by omega, hall, fun _ z => absurd ((zfit_at (m := m) (i := 0) (p := S) (by omega) (by omega)).mp z).2 (by omega), fun z => by omega⟩
      refine z_iconst hx (v := nI 0) dX6_readWeighing_25 (by decide +kernel) ?_
      exact rz _ _ _ _ rfl (Or.inl rfl) ⟨_, rfl, (Or.inr ⟨rfl, ⟨S, hp, hst⟩, zfm_rf _ _ _⟩)⟩ dX6_readWeighing_26
set_option maxHeartbeats 4000000 in
set_option maxRecDepth 100000 in
theorem k_X6_readRoom {E : zE} (hI : zI E) (M : zM) {tx : Nat → Nat} {len : Nat} (ht : zTm M tx len) : zK E yX6_readRoom (.code yX6_readRoom cX6_readRoom 2 (some .int)) (zrm 3 73) [.ref (E.2.2.2 32)] M (zpi (fun v M2 => (∃ n, zTok tx len n ∧ v = -9 ∧ M2.1 32 5 = nI (zwt tx) ∧ zPf (M2.1 34) (zwt tx, n, zmmT tx, zcdT tx, zrdR tx) ∧ zfm (fun c => c = 34) (fun k => k = 3 ∨ k = 5) M M2) ∨ (∃ p, v = nI p ∧ zStk tx len p ∧ zfm (fun c => c = 34) (fun k => k = 3 ∨ k = 5) M M2))) := by
  refine zK_of hI (by decide) (Nat.le_of_ble_eq_true rfl) (fun x hx ri rz rl rv => ?_)
  show zJ E x 0 [(0, .ref (E.2.2.2 32))] [] M
  have hL : M.1 32 2 = nI len := ht.1
  have hT := ht.2.1
  have hlen : len ≤ 90 := ht.2.2.1
  have h255 := ht.2.2.2
  have hw := zwt_in tx
  refine z_aload_n hx 0 dX6_readRoom_0 rfl rfl ?_
  refine z_iconst hx (v := nI 0) dX6_readRoom_1 (by decide +kernel) ?_
  refine zp_X6_3 hx zw_579 dX6_readRoom_2 ?_
  refine z_iconst hx (v := nI 0) dX6_readRoom_5 (by decide +kernel) ?_
  refine z_istore_n hx (lv2 := [(1, .int (nI 0)), (0, .ref (E.2.2.2 32))]) dX6_readRoom_6 rfl (by decide) rfl ?_
  have loop7 : ∀ (fuel7 : Nat) (k : Nat) (N : zM) (_ : k ≤ 18) (_ : zfm (fun c => c = 34) (fun k => k = 3 ∨ k = 5) M N) (_ : N.1 32 3 = nI 0) (_ : ∀ j, j < k → N.1 34 j = nI 0), 18 - k < fuel7 → zJ E x 7 [(1, .int (nI k)), (0, .ref (E.2.2.2 32))] [] N := by
    intro fuel7
    induction fuel7 with
    | zero =>
      intros; omega
    | succ fuel7 ih7 =>
      intro k N hk hNf hN3 hN0 hfuel7
      refine z_iload_n hx 0 dX6_readRoom_7 rfl rfl ?_
      refine z_bipush hx (v := nI 18) dX6_readRoom_8 (by decide +kernel) ?_
      refine z_icmp_ge_n (tgt := 26) hx (by omega) (by omega) dX6_readRoom_10 (by decide) (fun h10 => ?_) (fun h10 => ?_)
      · skip
        refine z_aload_n hx 1 dX6_readRoom_26 rfl rfl ?_
        refine z_callV hx (As := []) (st := []) (k_X6_readHead hI N (zTm_fr ht hNf (by omega) (by omega)) hN3) zw_669 zy_X6_readHead ⟨rfl, rfl⟩ (by decide) (zOB_X6 E) rfl rfl rfl rfl (Nat.le_of_ble_eq_true rfl) dX6_readRoom_27 ?_
        rintro _ M27 ⟨v27, rfl, q27⟩
        rcases q27 with ⟨rfl, q27a, q27b, q27c, q27d, q27e, q27g, q27h, q27i, q27j, q27f⟩ | ⟨rfl, ⟨p27, q27p, q27s⟩, q27f⟩
        · skip
          show zJ E x 30 _ [.int (nI 1)] _
          refine z_if_ne_n (tgt := 38) hx (by decide) dX6_readRoom_30 (by decide) (fun _ => ?_) (fun h => absurd h (by decide))
          have loop38 : ∀ (fuel38 : Nat) (m : Nat) (K : zM) (_ : zfm (fun c => c = 34) (fun k => k = 3 ∨ k = 5) M K) (_ : m ≤ 8) (_ : 4 + m * (zwt tx + 6) ≤ len) (_ : ∀ j, j < 4 + m * (zwt tx + 6) → zfit tx j) (_ : K.1 32 3 = nI (4 + m * (zwt tx + 6))) (_ : K.1 32 5 = nI (zwt tx)) (_ : K.1 34 0 = nI (zmmT tx)) (_ : K.1 34 1 = nI m) (_ : ∀ t, t < m → K.1 34 (2 + t) = nI (zcdT tx t) ∧ K.1 34 (10 + t) = Int32.ofInt (zrdR tx t)), 9 - m < fuel38 → zJ E x 38 [(0, .ref (E.2.2.2 32))] [] K := by
            intro fuel38
            induction fuel38 with
            | zero =>
              intros; omega
            | succ fuel38 ih38 =>
              intro m K hKf hm8 hml hmf hK3 hK5 hK0 hK1 hKt hfuel38
              refine z_aload_n hx 0 dX6_readRoom_38 rfl rfl ?_
              refine zg_X6_3 hx zw_579 dX6_readRoom_39 ?_
              refine z_eqi (b := nI (4 + m * (zwt tx + 6))) hK3 ?_
              refine z_aload_n hx 0 dX6_readRoom_42 rfl rfl ?_
              refine zg_X6_2 hx zw_578 dX6_readRoom_43 ?_
              refine z_eqi (b := nI len) ((hKf.2 2 (by omega)).1.trans hL) ?_
              refine z_icmp_ge_n (tgt := 61) hx (by omega) (by omega) dX6_readRoom_46 (by decide) (fun h46 => ?_) (fun h46 => ?_)
              · skip
                refine z_bipush hx (v := (-9)) dX6_readRoom_61 rfl ?_
                exact ri _ _ _ _ rfl ⟨_, rfl, (by
                    have hl : len = 4 + m * (zwt tx + 6) := by omega
                    exact Or.inl ⟨m, ⟨hl, hm8, fun j hj => hmf j (by omega)⟩, rfl, hK5, ⟨hK0, hK1, hKt⟩, hKf⟩)⟩ dX6_readRoom_63
              · skip
                refine z_aload_n hx 0 dX6_readRoom_49 rfl rfl ?_
                refine z_callV hx (As := []) (st := []) (k_X6_readWeighing hI K (zTm_fr ht hKf (by omega) (by omega)) (m := m) rfl hm8 hK3 h46 hmf hK5 hK1) zw_677 zy_X6_readWeighing ⟨rfl, rfl⟩ (by decide) (zOB_X6 E) rfl rfl rfl rfl (Nat.le_of_ble_eq_true rfl) dX6_readRoom_50 ?_
                rintro _ M50 ⟨v50, rfl, q50⟩
                rcases q50 with ⟨rfl, q50a, q50b, q50c, q50d, q50e, q50g, q50h, q50j, q50k, q50f⟩ | ⟨rfl, ⟨p50, q50p, q50s⟩, q50f⟩
                · skip
                  show zJ E x 53 _ [.int (nI 1)] _
                  refine z_if_ne_n (tgt := 38) hx (by decide) dX6_readRoom_53 (by decide) (fun _ => ?_) (fun h => absurd h (by decide))
                  exact z_to (ih38 (m + 1) M50 (zfm_tr hKf q50f) (by omega) (by rw [Nat.add_mul]; omega) (fun j hj => q50c j (by rw [Nat.add_mul] at hj; omega)) (by rw [q50d]; congr 1; rw [Nat.add_mul]; omega) ((q50k).trans hK5) ((q50j 0 (by omega) (by omega) (by omega)).trans hK0) q50e (fun t ht => by
                      by_cases e : t = m
                      · subst e
                        exact ⟨q50g, q50h⟩
                      · have z := hKt t (by omega)
                        exact ⟨(q50j _ (by omega) (by omega) (by omega)).trans z.1, (q50j _ (by omega) (by omega) (by omega)).trans z.2⟩) (by omega)) [0] rfl rfl
                · skip
                  show zJ E x 53 _ [.int (nI 0)] _
                  refine z_if_ne_n (tgt := 38) hx (by decide) dX6_readRoom_53 (by decide) (fun h => absurd h (by decide)) (fun _ => ?_)
                  refine z_aload_n hx 0 dX6_readRoom_56 rfl rfl ?_
                  refine zg_X6_3 hx zw_579 dX6_readRoom_57 ?_
                  refine z_eqi (b := nI p50) q50p ?_
                  exact ri _ _ _ _ rfl ⟨_, rfl, (Or.inr ⟨_, rfl, q50s, zfm_tr hKf q50f⟩)⟩ dX6_readRoom_60
          exact z_to (loop38 _ 0 M27 (zfm_tr hNf q27f) (by omega) (by omega) (fun j hj => by rcases (show j = 0 ∨ j = 1 ∨ j = 2 ∨ j = 3 by omega) with rfl | rfl | rfl | rfl; exact q27b; exact q27c; exact q27d; exact q27e) (by rw [q27g]; congr 1; omega) q27h q27i (by rw [q27j 1 (by omega)]; exact hN0 1 (by omega)) (fun t ht => by omega) (Nat.lt_succ_self _)) [1] rfl rfl
        · skip
          show zJ E x 30 _ [.int (nI 0)] _
          refine z_if_ne_n (tgt := 38) hx (by decide) dX6_readRoom_30 (by decide) (fun h => absurd h (by decide)) (fun _ => ?_)
          refine z_aload_n hx 1 dX6_readRoom_33 rfl rfl ?_
          refine zg_X6_3 hx zw_579 dX6_readRoom_34 ?_
          refine z_eqi (b := nI p27) q27p ?_
          exact ri _ _ _ _ rfl ⟨_, rfl, (Or.inr ⟨_, rfl, q27s, zfm_tr hNf q27f⟩)⟩ dX6_readRoom_37
      · skip
        refine z_aload_n hx 1 dX6_readRoom_13 rfl rfl ?_
        refine zg_X6_6 hx zw_582 dX6_readRoom_14 ?_
        refine z_iload_n hx 0 dX6_readRoom_17 rfl rfl ?_
        refine z_iconst hx (v := nI 0) dX6_readRoom_18 (by decide +kernel) ?_
        refine z_iast_n hx (zIA_34 E) (by omega) dX6_readRoom_19 ?_
        refine z_iinc hx (w := nI (k + 1)) (lv2 := [(1, .int (nI (k + 1))), (0, .ref (E.2.2.2 32))]) 0 dX6_readRoom_20 rfl (z_inc _) (by decide) rfl ?_
        refine z_goto (tgt := 7) hx dX6_readRoom_23 (by decide) ?_
        exact z_to (ih7 (k + 1) (zputI N 34 k (nI 0)) (by omega) (zfm_tr hNf (zfm_cI rfl (by omega))) (zskI (by omega) hN3) (fun j hj => by
            rw [zg_putI]
            by_cases e : j = k
            · rw [if_pos ⟨rfl, e⟩]
            · rw [if_neg (fun z => e z.2)]
              exact hN0 j (by omega)) (by omega)) [0, 1] rfl rfl
  exact z_to (loop7 _ 0 (zputI M 32 3 (nI 0)) (by omega) (zfm_fI (Or.inl rfl)) zhtI (fun j hj => by omega) (Nat.lt_succ_self _)) [0, 1] rfl rfl
