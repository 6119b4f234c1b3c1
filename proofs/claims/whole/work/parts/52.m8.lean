theorem zne64 {D : Int} (h : zrg D) (hn : ¬ D = 0) : ¬ Int64.ofInt D = 0 := fun e => hn ((zeq64 h ⟨by decide, by decide⟩).mp (e.trans (by decide +kernel)))
theorem zrs_step {S N : zM} {n p row k : Nat} (hn : n ≤ 5) (hp : p < n) (hr : row < n) (hpr : ¬ row = p) (hk : k < n) (h : ∀ a b, a < n → b < n → S.2 43 (5 * a + b) = N.2 43 (5 * (if b < k then zsp2 p row a else a) + b)) : ∀ a b, a < n → b < n → (zputJ (zputJ S 43 (5 * row + k) (S.2 43 (5 * p + k))) 43 (5 * p + k) (S.2 43 (5 * row + k))).2 43 (5 * a + b) = N.2 43 (5 * (if b < k + 1 then zsp2 p row a else a) + b) := by
  intro a b ha hb
  rw [zg_putJ, zg_putJ]
  by_cases e : b = k
  · subst e
    rw [if_pos (Nat.lt_succ_self b)]
    by_cases e1 : a = p
    · subst e1
      rw [if_pos ⟨rfl, rfl⟩, h row b hr hb, if_neg (Nat.lt_irrefl b), show zsp2 a row a = row from if_pos rfl]
    · rw [if_neg (by omega)]
      by_cases e2 : a = row
      · subst e2
        rw [if_pos ⟨rfl, rfl⟩, h p b hp hb, if_neg (Nat.lt_irrefl b), show zsp2 p a a = p by unfold zsp2; rw [if_neg e1, if_pos rfl]]
      · rw [if_neg (by omega), h a b ha hb, if_neg (Nat.lt_irrefl b), show zsp2 p row a = a by unfold zsp2; rw [if_neg e1, if_neg e2]]
  · rw [if_neg (by omega), if_neg (by omega), h a b ha hb]
    by_cases e3 : b < k
    · rw [if_pos e3, if_pos (by omega)]
    · rw [if_neg e3, if_neg (by omega)]
theorem zel_step {V : zM} {n p i j : Nat} {B : Nat → Nat → Int} {v : Int64} (hn : n ≤ 5) (hj : j < n) (hi : i < n) (hpi : p < i) (hpj : p ≤ j) (h : ∀ a b, p ≤ a → a < n → p ≤ b → b < n → V.2 43 (5 * a + b) = Int64.ofInt (if (p < a ∧ a < i) ∨ (a = i ∧ j + 1 ≤ b) then zm B (p + 1) a b else zm B p a b)) (hv : v = Int64.ofInt (zm B (p + 1) i j)) : ∀ a b, p ≤ a → a < n → p ≤ b → b < n → (zputJ V 43 (5 * i + j) v).2 43 (5 * a + b) = Int64.ofInt (if (p < a ∧ a < i) ∨ (a = i ∧ j ≤ b) then zm B (p + 1) a b else zm B p a b) := by
  intro a b h1 h2 h3 h4
  rw [zg_putJ]
  by_cases e : a = i ∧ b = j
  · rw [if_pos ⟨rfl, by rw [e.1, e.2]⟩, if_pos (by omega), hv, e.1, e.2]
  · rw [if_neg (by omega), h a b h1 h2 h3 h4]
    congr 1
    by_cases q : (p < a ∧ a < i) ∨ (a = i ∧ j + 1 ≤ b)
    · rw [if_pos q, if_pos (by omega)]
    · rw [if_neg q, if_neg (by omega)]
set_option maxHeartbeats 4000000 in
set_option maxRecDepth 100000 in
theorem k_X6_determinant {E : zE} (hI : zI E) (M : zM) {n : Nat} (hn : n ≤ 5) {A : Nat → Nat → Int} (hA : ∀ i j, i < n → j < n → M.2 43 (5 * i + j) = Int64.ofInt (A i j)) (hB : zBn n A) : zK E yX6_determinant (.code yX6_determinant cX6_determinant 11 (some .long)) (zrm 0 0) [.ref (E.2.2.2 32), .int (nI n)] M (zpl (fun v M2 => v = Int64.ofInt (zdet n A) ∧ zfr (fun c => c = 43) M M2)) := by
  refine zK_of hI (by decide) (Nat.le_of_ble_eq_true rfl) (fun x hx ri rz rl rv => ?_)
  show zJ E x 0 [(0, .ref (E.2.2.2 32)), (1, .int (nI n))] [] M
  refine z_lconst hx (v := 1) dX6_determinant_0 rfl ?_
  refine z_lstore_n hx (lv2 := [(2, .long 1), (0, .ref (E.2.2.2 32)), (1, .int (nI n))]) dX6_determinant_1 rfl (by decide) rfl ?_
  refine z_lconst hx (v := 1) dX6_determinant_2 rfl ?_
  refine z_lstore hx (lv2 := [(4, .long 1), (2, .long 1), (0, .ref (E.2.2.2 32)), (1, .int (nI n))]) dX6_determinant_3 (by decide) rfl ?_
  refine z_iconst hx (v := nI 0) dX6_determinant_5 (by decide +kernel) ?_
  refine z_istore hx (lv2 := [(6, .int (nI 0)), (4, .long 1), (2, .long 1), (0, .ref (E.2.2.2 32)), (1, .int (nI n))]) dX6_determinant_6 (by decide) rfl ?_
  have loop8 : ∀ (fuel8 : Nat) (p : Nat) (N : zM) (ρ : Nat → Nat) (sg : Int) (_ : p ≤ n) (_ : zfr (fun c => c = 43) M N) (_ : zinj n ρ) (_ : zdet n A = sg * zdet n (zpm A ρ)) (_ : ∀ j, j ≤ p → ¬ zdet j (zpm A ρ) = 0) (_ : (∀ i j, p ≤ i → i < n → p ≤ j → j < n → N.2 43 (5 * i + j) = Int64.ofInt (zm (zpm A ρ) p i j))), n - p < fuel8 → zJ E x 8 [(6, .int (nI p)), (4, .long (Int64.ofInt sg)), (2, .long (Int64.ofInt (zdet p (zpm A ρ)))), (0, .ref (E.2.2.2 32)), (1, .int (nI n))] [] N := by
    intro fuel8
    induction fuel8 with
    | zero =>
      intros; omega
    | succ fuel8 ih8 =>
      intro p N ρ sg hp hNf hinj hsg hd hW hfuel8
      refine z_iload hx 0 dX6_determinant_8 rfl ?_
      refine z_iload_n hx 4 dX6_determinant_10 rfl rfl ?_
      refine z_icmp_ge_n (tgt := 254) hx (by omega) (by omega) dX6_determinant_11 (by decide) (fun h11 => ?_) (fun h11 => ?_)
      · skip
        refine z_lload hx 1 dX6_determinant_254 rfl ?_
        refine z_lload_n hx 2 dX6_determinant_256 rfl rfl ?_
        refine z_lmul hx dX6_determinant_257 ?_
        exact rl _ _ _ _ rfl ⟨_, rfl, ⟨by rw [zI64_mul, show p = n by omega, ← hsg], hNf⟩⟩ dX6_determinant_258
      · skip
        have elim : ∀ (ρ2 : Nat → Nat) (s2 : Int) (N2 : zM), zfr (fun c => c = 43) M N2 → zinj n ρ2 → zdet n A = s2 * zdet n (zpm A ρ2) → (∀ j, j ≤ p → ¬ zdet j (zpm A ρ2) = 0) → zdet p (zpm A ρ) = zdet p (zpm A ρ2) → ¬ zm (zpm A ρ2) p p p = 0 → (∀ i j, p ≤ i → i < n → p ≤ j → j < n → N2.2 43 (5 * i + j) = Int64.ofInt (zm (zpm A ρ2) p i j)) → zJ E x 134 [(6, .int (nI p)), (4, .long (Int64.ofInt s2)), (2, .long (Int64.ofInt (zdet p (zpm A ρ)))), (0, .ref (E.2.2.2 32)), (1, .int (nI n))] [] N2 := by
          intro ρ2 s2 N2 hf2 hinj2 hsg2 hd2 hDp hE hW2
          have hBr := hB ρ2 hinj2
          have hstep := zm_step (zm_Vk p hd2) hE
          have hd3 : ∀ j, j ≤ p + 1 → ¬ zdet j (zpm A ρ2) = 0 := fun j hj => by by_cases e : j = p + 1; (rw [e, ← zm_D]; exact hE); exact hd2 j (by omega)
          refine z_iload hx 0 dX6_determinant_134 rfl ?_
          refine z_iconst hx (v := nI 1) dX6_determinant_136 (by decide +kernel) ?_
          refine z_iadd_n hx dX6_determinant_137 ?_
          refine z_istore hx (lv2 := [(8, .int (nI (p + 1))), (6, .int (nI p)), (4, .long (Int64.ofInt s2)), (2, .long (Int64.ofInt (zdet p (zpm A ρ)))), (0, .ref (E.2.2.2 32)), (1, .int (nI n))]) dX6_determinant_138 (by decide) rfl ?_
          have loop140 : ∀ (fuel140 : Nat) (i : Nat) (Q : zM) (_ : p + 1 ≤ i) (_ : i ≤ n) (_ : zfr (fun c => c = 43) M Q) (_ : ∀ a b, p ≤ a → a < n → p ≤ b → b < n → Q.2 43 (5 * a + b) = Int64.ofInt (if p < a ∧ a < i then zm (zpm A ρ2) (p + 1) a b else zm (zpm A ρ2) p a b)), n - i < fuel140 → zJ E x 140 [(8, .int (nI i)), (6, .int (nI p)), (4, .long (Int64.ofInt s2)), (2, .long (Int64.ofInt (zdet p (zpm A ρ)))), (0, .ref (E.2.2.2 32)), (1, .int (nI n))] [] Q := by
            intro fuel140
            induction fuel140 with
            | zero =>
              intros; omega
            | succ fuel140 ih140 =>
              intro i Q hi1 hi2 hQf hQ hfuel140
              refine z_iload hx 0 dX6_determinant_140 rfl ?_
              refine z_iload_n hx 5 dX6_determinant_142 rfl rfl ?_
              refine z_icmp_ge_n (tgt := 235) hx (by omega) (by omega) dX6_determinant_143 (by decide) (fun h143 => ?_) (fun h143 => ?_)
              · skip
                refine z_aload_n hx 4 dX6_determinant_235 rfl rfl ?_
                refine zg_X6_19 hx zw_595 dX6_determinant_236 ?_
                refine z_iconst hx (v := nI 5) dX6_determinant_239 (by decide +kernel) ?_
                refine z_iload hx 1 dX6_determinant_240 rfl ?_
                refine z_imul_n hx dX6_determinant_242 ?_
                refine z_iload hx 1 dX6_determinant_243 rfl ?_
                refine z_iadd_n hx dX6_determinant_245 ?_
                refine z_lald_n hx (zJA_43 E) (by omega) dX6_determinant_246 ?_
                refine z_eql (b := Int64.ofInt (zm (zpm A ρ2) p p p)) ((hQ p p (Nat.le_refl _) (by omega) (Nat.le_refl _) (by omega)).trans (by rw [if_neg (by omega)])) ?_
                refine z_lstore_n hx (lv2 := [(2, .long (Int64.ofInt (zm (zpm A ρ2) p p p))), (8, .int (nI i)), (6, .int (nI p)), (4, .long (Int64.ofInt s2)), (0, .ref (E.2.2.2 32)), (1, .int (nI n))]) dX6_determinant_247 rfl (by decide) rfl ?_
                refine z_iinc hx (w := nI (p + 1)) (lv2 := [(6, .int (nI (p + 1))), (2, .long (Int64.ofInt (zm (zpm A ρ2) p p p))), (8, .int (nI i)), (4, .long (Int64.ofInt s2)), (0, .ref (E.2.2.2 32)), (1, .int (nI n))]) 2 dX6_determinant_248 rfl (z_inc _) (by decide) rfl ?_
                refine z_goto (tgt := 8) hx dX6_determinant_251 (by decide) ?_
                exact z_to (ih8 (p + 1) Q ρ2 s2 (by omega) hQf hinj2 hsg2 (fun j hj => by by_cases e : j = p + 1; (rw [e, ← zm_D]; exact hE); exact hd2 j (by omega)) (fun a b h1 h2 h3 h4 => by rw [hQ a b (by omega) h2 (by omega) h4, if_pos (by omega)]) (by omega)) [0, 3, 1, 4, 5] (by rw [zm_D]; rfl) rfl
              · skip
                refine z_iload_n hx 5 dX6_determinant_146 rfl rfl ?_
                refine z_iconst hx (v := nI 1) dX6_determinant_147 (by decide +kernel) ?_
                refine z_isub_n hx (by omega) dX6_determinant_148 ?_
                refine z_istore hx (lv2 := [(9, .int (nI (n - 1))), (8, .int (nI i)), (6, .int (nI p)), (4, .long (Int64.ofInt s2)), (2, .long (Int64.ofInt (zdet p (zpm A ρ)))), (0, .ref (E.2.2.2 32)), (1, .int (nI n))]) dX6_determinant_149 (by decide) rfl ?_
                have loop151 : ∀ (fuel151 : Nat) (J : Nat) (V : zM) (_ : J ≤ n) (_ : zfr (fun c => c = 43) M V) (_ : ∀ a b, p ≤ a → a < n → p ≤ b → b < n → V.2 43 (5 * a + b) = Int64.ofInt (if (p < a ∧ a < i) ∨ (a = i ∧ J ≤ b) then zm (zpm A ρ2) (p + 1) a b else zm (zpm A ρ2) p a b)), J < fuel151 → zJ E x 151 [(9, .int (zjm J)), (8, .int (nI i)), (6, .int (nI p)), (4, .long (Int64.ofInt s2)), (2, .long (Int64.ofInt (zdet p (zpm A ρ)))), (0, .ref (E.2.2.2 32)), (1, .int (nI n))] [] V := by
                  intro fuel151
                  induction fuel151 with
                  | zero =>
                    intros; omega
                  | succ fuel151 ih151 =>
                    intro J V hJ hVf hVe hfuel151
                    by_cases hJp : J ≤ p
                    · skip
                      refine z_iload hx 0 dX6_determinant_151 rfl ?_
                      refine z_iload hx 2 dX6_determinant_153 rfl ?_
                      refine z_icmp_lt (tgt := 229) hx dX6_determinant_155 (by decide) (fun h155 => ?_) (fun h155 => ?_)
                      · skip
                        refine z_iinc hx (w := nI (i + 1)) (lv2 := [(8, .int (nI (i + 1))), (9, .int (zjm J)), (6, .int (nI p)), (4, .long (Int64.ofInt s2)), (2, .long (Int64.ofInt (zdet p (zpm A ρ)))), (0, .ref (E.2.2.2 32)), (1, .int (nI n))]) 1 dX6_determinant_229 rfl (z_inc _) (by decide) rfl ?_
                        refine z_goto (tgt := 140) hx dX6_determinant_232 (by decide) ?_
                        exact z_to (ih140 (i + 1) V (by omega) (by omega) hVf (fun a b h1 h2 h3 h4 => by
                            rw [hVe a b h1 h2 h3 h4]
                            congr 1
                            by_cases q : (p < a ∧ a < i) ∨ (a = i ∧ J ≤ b)
                            · rw [if_pos q, if_pos (by omega)]
                            · rw [if_neg q, if_neg (by omega)]) (by omega)) [0, 2, 3, 4, 5, 6] rfl rfl
                      · skip
                        exact absurd (zjm_lt J (by omega) p (by omega) hJp) h155
                    · skip
                      obtain ⟨j, rfl⟩ : ∃ j, J = j + 1 := ⟨J - 1, by omega⟩
                      refine z_lv [0, 1, 2, 3, 4, 5, 6] (lv2 := [(9, .int (nI j)), (8, .int (nI i)), (6, .int (nI p)), (4, .long (Int64.ofInt s2)), (2, .long (Int64.ofInt (zdet p (zpm A ρ)))), (0, .ref (E.2.2.2 32)), (1, .int (nI n))]) (by rw [zjm_s]; rfl) ?_
                      refine z_iload hx 0 dX6_determinant_151 rfl ?_
                      refine z_iload hx 2 dX6_determinant_153 rfl ?_
                      refine z_icmp_lt_n (tgt := 229) hx (by omega) (by omega) dX6_determinant_155 (by decide) (fun h155 => ?_) (fun h155 => ?_)
                      · skip
                        omega
                      · skip
                        refine z_aload_n hx 5 dX6_determinant_158 rfl rfl ?_
                        refine zg_X6_19 hx zw_595 dX6_determinant_159 ?_
                        refine z_iconst hx (v := nI 5) dX6_determinant_162 (by decide +kernel) ?_
                        refine z_iload hx 1 dX6_determinant_163 rfl ?_
                        refine z_imul_n hx dX6_determinant_165 ?_
                        refine z_iload hx 0 dX6_determinant_166 rfl ?_
                        refine z_iadd_n hx dX6_determinant_168 ?_
                        refine z_aload_n hx 5 dX6_determinant_169 rfl rfl ?_
                        refine zg_X6_19 hx zw_595 dX6_determinant_170 ?_
                        refine z_iconst hx (v := nI 5) dX6_determinant_173 (by decide +kernel) ?_
                        refine z_iload hx 1 dX6_determinant_174 rfl ?_
                        refine z_imul_n hx dX6_determinant_176 ?_
                        refine z_iload hx 0 dX6_determinant_177 rfl ?_
                        refine z_iadd_n hx dX6_determinant_179 ?_
                        refine z_lald_n hx (zJA_43 E) (by omega) dX6_determinant_180 ?_
                        refine z_eql (b := Int64.ofInt (zm (zpm A ρ2) p i j)) ((hVe i j (by omega) (by omega) (by omega) (by omega)).trans (by rw [if_neg (by omega)])) ?_
                        refine z_aload_n hx 5 dX6_determinant_181 rfl rfl ?_
                        refine zg_X6_19 hx zw_595 dX6_determinant_182 ?_
                        refine z_iconst hx (v := nI 5) dX6_determinant_185 (by decide +kernel) ?_
                        refine z_iload hx 2 dX6_determinant_186 rfl ?_
                        refine z_imul_n hx dX6_determinant_188 ?_
                        refine z_iload hx 2 dX6_determinant_189 rfl ?_
                        refine z_iadd_n hx dX6_determinant_191 ?_
                        refine z_lald_n hx (zJA_43 E) (by omega) dX6_determinant_192 ?_
                        refine z_eql (b := Int64.ofInt (zm (zpm A ρ2) p p p)) ((hVe p p (by omega) (by omega) (by omega) (by omega)).trans (by rw [if_neg (by omega)])) ?_
                        refine z_lmul hx dX6_determinant_193 ?_
                        refine z_aload_n hx 5 dX6_determinant_194 rfl rfl ?_
                        refine zg_X6_19 hx zw_595 dX6_determinant_195 ?_
                        refine z_iconst hx (v := nI 5) dX6_determinant_198 (by decide +kernel) ?_
                        refine z_iload hx 1 dX6_determinant_199 rfl ?_
                        refine z_imul_n hx dX6_determinant_201 ?_
                        refine z_iload hx 2 dX6_determinant_202 rfl ?_
                        refine z_iadd_n hx dX6_determinant_204 ?_
                        refine z_lald_n hx (zJA_43 E) (by omega) dX6_determinant_205 ?_
                        refine z_eql (b := Int64.ofInt (zm (zpm A ρ2) p i p)) ((hVe i p (by omega) (by omega) (by omega) (by omega)).trans (by rw [if_neg (by omega)])) ?_
                        refine z_aload_n hx 5 dX6_determinant_206 rfl rfl ?_
                        refine zg_X6_19 hx zw_595 dX6_determinant_207 ?_
                        refine z_iconst hx (v := nI 5) dX6_determinant_210 (by decide +kernel) ?_
                        refine z_iload hx 2 dX6_determinant_211 rfl ?_
                        refine z_imul_n hx dX6_determinant_213 ?_
                        refine z_iload hx 0 dX6_determinant_214 rfl ?_
                        refine z_iadd_n hx dX6_determinant_216 ?_
                        refine z_lald_n hx (zJA_43 E) (by omega) dX6_determinant_217 ?_
                        refine z_eql (b := Int64.ofInt (zm (zpm A ρ2) p p j)) ((hVe p j (by omega) (by omega) (by omega) (by omega)).trans (by rw [if_neg (by omega)])) ?_
                        refine z_lmul hx dX6_determinant_218 ?_
                        refine z_lsub hx dX6_determinant_219 ?_
                        refine z_lload_n hx 4 dX6_determinant_220 rfl rfl ?_
                        refine z_ldiv hx dX6_determinant_221 (zne64 (by rw [hDp]; exact (hBr p i j (by omega) (by omega) h155 (by omega)).2.1) (hd p (Nat.le_refl _))) ?_
                        refine z_last_n hx (zJA_43 E) (by omega) dX6_determinant_222 ?_
                        refine z_iinc hx (w := nI j + (-1)) (lv2 := [(9, .int (nI j + (-1))), (8, .int (nI i)), (6, .int (nI p)), (4, .long (Int64.ofInt s2)), (2, .long (Int64.ofInt (zdet p (zpm A ρ)))), (0, .ref (E.2.2.2 32)), (1, .int (nI n))]) 0 dX6_determinant_223 rfl rfl (by decide) rfl ?_
                        refine z_goto (tgt := 151) hx dX6_determinant_226 (by decide) ?_
                        exact z_to (ih151 j (zputJ V 43 ((5 * i) + j) ((((Int64.ofInt (zm (zpm A ρ2) p i j)) * (Int64.ofInt (zm (zpm A ρ2) p p p))) - ((Int64.ofInt (zm (zpm A ρ2) p i p)) * (Int64.ofInt (zm (zpm A ρ2) p p j)))) / (Int64.ofInt (zdet p (zpm A ρ))))) (by omega) (zfr_tr hVf (zfr_putJ rfl)) (zel_step hn (by omega) (by omega) (by omega) h155 hVe (by
                            have hz := hBr p i j (by omega) (by omega) h155 (by omega)
                            have hz3 : zrg (zm (zpm A ρ2) (p + 1) i j * zdet p (zpm A ρ2)) := by
                              by_cases ej : j = p
                              · rw [zm_Vk (p + 1) hd3 i j (by omega), Int.zero_mul]; exact ⟨by decide, by decide⟩
                              · exact hz.2.2 (by omega) (by omega)
                            rw [zI64_mul, zI64_mul, zI64_sub, Int.mul_comm (zm (zpm A ρ2) p i j), ← hstep i j, Int.mul_comm, hDp]
                            exact zdivx (hd2 p (Nat.le_refl _)) hz3 hz.2.1)) (by omega)) [0, 1, 2, 3, 4, 5, 6] (by rw [zjm_d]; rfl) rfl
                exact z_to (loop151 _ n Q (Nat.le_refl _) hQf (fun a b h1 h2 h3 h4 => by
                    rw [hQ a b h1 h2 h3 h4]
                    congr 1
                    by_cases q : p < a ∧ a < i
                    · rw [if_pos q, if_pos (by omega)]
                    · rw [if_neg q, if_neg (by omega)]) (Nat.lt_succ_self _)) [0, 1, 2, 3, 4, 5, 6] (by rw [show nI (n - 1) = zjm n by rw [← zjm_s, show n - 1 + 1 = n by omega]]; rfl) rfl
          exact z_to (loop140 _ (p + 1) N2 (Nat.le_refl _) (by omega) hf2 (fun a b h1 h2 h3 h4 => by rw [if_neg (by omega)]; exact hW2 a b h1 h2 h3 h4) (Nat.lt_succ_self _)) [0, 1, 2, 3, 4, 5] rfl rfl
        refine z_iload hx 0 dX6_determinant_14 rfl ?_
        refine z_istore hx (lv2 := [(7, .int (nI p)), (6, .int (nI p)), (4, .long (Int64.ofInt sg)), (2, .long (Int64.ofInt (zdet p (zpm A ρ)))), (0, .ref (E.2.2.2 32)), (1, .int (nI n))]) dX6_determinant_16 (by decide) rfl ?_
        have loop18 : ∀ (fuel18 : Nat) (row : Nat) (_ : p ≤ row) (_ : row ≤ n) (_ : ∀ i, p ≤ i → i < row → zm (zpm A ρ) p i p = 0), n - row < fuel18 → zJ E x 18 [(7, .int (nI row)), (6, .int (nI p)), (4, .long (Int64.ofInt sg)), (2, .long (Int64.ofInt (zdet p (zpm A ρ)))), (0, .ref (E.2.2.2 32)), (1, .int (nI n))] [] N := by
          intro fuel18
          induction fuel18 with
          | zero =>
            intros; omega
          | succ fuel18 ih18 =>
            intro row hr1 hr2 hz hfuel18
            refine z_iload hx 0 dX6_determinant_18 rfl ?_
            refine z_iload_n hx 5 dX6_determinant_20 rfl rfl ?_
            refine z_icmp_ge_n (tgt := 47) hx (by omega) (by omega) dX6_determinant_21 (by decide) (fun h21 => ?_) (fun h21 => ?_)
            · skip
              refine z_iload hx 0 dX6_determinant_47 rfl ?_
              refine z_iload_n hx 5 dX6_determinant_49 rfl rfl ?_
              refine z_icmp_ne_n (tgt := 55) hx (by omega) (by omega) dX6_determinant_50 (by decide) (fun h50 => ?_) (fun h50 => ?_)
              · skip
                omega
              · skip
                refine z_lconst hx (v := 0) dX6_determinant_53 rfl ?_
                exact rl _ _ _ _ rfl ⟨_, rfl, ⟨by rw [hsg, zdet_col0 (by omega) hd (fun i h1 h2 => hz i h1 (by omega)), Int.mul_zero]; rfl, hNf⟩⟩ dX6_determinant_54
            · skip
              refine z_aload_n hx 4 dX6_determinant_24 rfl rfl ?_
              refine zg_X6_19 hx zw_595 dX6_determinant_25 ?_
              refine z_iconst hx (v := nI 5) dX6_determinant_28 (by decide +kernel) ?_
              refine z_iload hx 0 dX6_determinant_29 rfl ?_
              refine z_imul_n hx dX6_determinant_31 ?_
              refine z_iload hx 1 dX6_determinant_32 rfl ?_
              refine z_iadd_n hx dX6_determinant_34 ?_
              refine z_lald_n hx (zJA_43 E) (by omega) dX6_determinant_35 ?_
              refine z_eql (b := Int64.ofInt (zm (zpm A ρ) p row p)) (hW row p hr1 (by omega) (Nat.le_refl _) (by omega)) ?_
              refine z_lconst hx (v := 0) dX6_determinant_36 rfl ?_
              refine z_lcmp hx dX6_determinant_37 ?_
              refine z_if_ne (tgt := 47) hx dX6_determinant_38 (by decide) (fun h38 => ?_) (fun h38 => ?_)
              · skip
                have hrow : ¬ zm (zpm A ρ) p row p = 0 := fun z => zcmpn0 h38 (by rw [z]; decide +kernel)
                refine z_iload hx 0 dX6_determinant_47 rfl ?_
                refine z_iload_n hx 5 dX6_determinant_49 rfl rfl ?_
                refine z_icmp_ne_n (tgt := 55) hx (by omega) (by omega) dX6_determinant_50 (by decide) (fun h50 => ?_) (fun h50 => ?_)
                · skip
                  refine z_iload hx 0 dX6_determinant_55 rfl ?_
                  refine z_iload hx 1 dX6_determinant_57 rfl ?_
                  refine z_icmp_eq_n (tgt := 134) hx (by omega) (by omega) dX6_determinant_59 (by decide) (fun h59 => ?_) (fun h59 => ?_)
                  · skip
                    exact z_to (elim ρ sg N hNf hinj hsg hd rfl (by rw [h59] at hrow; exact hrow) hW) [1, 2, 3, 4, 5] rfl rfl
                  · skip
                    refine z_lload hx 2 dX6_determinant_62 rfl ?_
                    refine z_lneg hx dX6_determinant_64 ?_
                    refine z_lstore hx (lv2 := [(4, .long (-(Int64.ofInt sg))), (7, .int (nI row)), (6, .int (nI p)), (2, .long (Int64.ofInt (zdet p (zpm A ρ)))), (0, .ref (E.2.2.2 32)), (1, .int (nI n))]) dX6_determinant_65 (by decide) rfl ?_
                    refine z_iconst hx (v := nI 0) dX6_determinant_67 (by decide +kernel) ?_
                    refine z_istore hx (lv2 := [(8, .int (nI 0)), (4, .long (-(Int64.ofInt sg))), (7, .int (nI row)), (6, .int (nI p)), (2, .long (Int64.ofInt (zdet p (zpm A ρ)))), (0, .ref (E.2.2.2 32)), (1, .int (nI n))]) dX6_determinant_68 (by decide) rfl ?_
                    have loop70 : ∀ (fuel70 : Nat) (k : Nat) (S : zM) (_ : k ≤ n) (_ : zfr (fun c => c = 43) M S) (_ : ∀ a b, a < n → b < n → S.2 43 (5 * a + b) = N.2 43 (5 * (if b < k then zsp2 p row a else a) + b)), n - k < fuel70 → zJ E x 70 [(8, .int (nI k)), (7, .int (nI row)), (6, .int (nI p)), (4, .long (Int64.ofInt (-sg))), (2, .long (Int64.ofInt (zdet p (zpm A ρ)))), (0, .ref (E.2.2.2 32)), (1, .int (nI n))] [] S := by
                      intro fuel70
                      induction fuel70 with
                      | zero =>
                        intros; omega
                      | succ fuel70 ih70 =>
                        intro k S hk hSf hS hfuel70
                        refine z_iload hx 0 dX6_determinant_70 rfl ?_
                        refine z_iload_n hx 6 dX6_determinant_72 rfl rfl ?_
                        refine z_icmp_ge_n (tgt := 134) hx (by omega) (by omega) dX6_determinant_73 (by decide) (fun h73 => ?_) (fun h73 => ?_)
                        · skip
                          exact z_to (elim (fun t => ρ (zsp2 p row t)) (-sg) S hSf (zinj_sw hinj (by omega) (by omega)) (by rw [zdet_sw A ρ (by omega) (by omega) (fun z => h59 (Eq.symm z)), hsg, Int.neg_mul_neg]) (fun j hj => by rw [zdet_sw0 (p := p) (by omega) (by omega) hj]; exact hd j hj) (Eq.symm (zdet_sw0 (p := p) (by omega) (by omega) (Nat.le_refl _))) (by rw [zm_sw (by omega) (by omega) (Nat.le_refl _), show zsp2 p row p = row from if_pos rfl]; exact hrow) (fun i j h1 h2 h3 h4 => by
                                    rw [hS i j h2 h4, if_pos (by omega), zm_sw (by omega) (by omega) h1]
                                    exact hW _ j (by unfold zsp2; split; exact hr1; split; exact Nat.le_refl _; exact h1) (by unfold zsp2; split; omega; split <;> omega) h3 h4)) [2, 3, 4, 5, 6] rfl rfl
                        · skip
                          refine z_aload_n hx 5 dX6_determinant_76 rfl rfl ?_
                          refine zg_X6_19 hx zw_595 dX6_determinant_77 ?_
                          refine z_iconst hx (v := nI 5) dX6_determinant_80 (by decide +kernel) ?_
                          refine z_iload hx 1 dX6_determinant_81 rfl ?_
                          refine z_imul_n hx dX6_determinant_83 ?_
                          refine z_iload hx 0 dX6_determinant_84 rfl ?_
                          refine z_iadd_n hx dX6_determinant_86 ?_
                          refine z_lald_n hx (zJA_43 E) (by omega) dX6_determinant_87 ?_
                          refine z_lstore hx (lv2 := [(9, .long (S.2 43 ((5 * row) + k))), (8, .int (nI k)), (7, .int (nI row)), (6, .int (nI p)), (4, .long (Int64.ofInt (-sg))), (2, .long (Int64.ofInt (zdet p (zpm A ρ)))), (0, .ref (E.2.2.2 32)), (1, .int (nI n))]) dX6_determinant_88 (by decide) rfl ?_
                          refine z_aload_n hx 6 dX6_determinant_90 rfl rfl ?_
                          refine zg_X6_19 hx zw_595 dX6_determinant_91 ?_
                          refine z_iconst hx (v := nI 5) dX6_determinant_94 (by decide +kernel) ?_
                          refine z_iload hx 2 dX6_determinant_95 rfl ?_
                          refine z_imul_n hx dX6_determinant_97 ?_
                          refine z_iload hx 1 dX6_determinant_98 rfl ?_
                          refine z_iadd_n hx dX6_determinant_100 ?_
                          refine z_aload_n hx 6 dX6_determinant_101 rfl rfl ?_
                          refine zg_X6_19 hx zw_595 dX6_determinant_102 ?_
                          refine z_iconst hx (v := nI 5) dX6_determinant_105 (by decide +kernel) ?_
                          refine z_iload hx 3 dX6_determinant_106 rfl ?_
                          refine z_imul_n hx dX6_determinant_108 ?_
                          refine z_iload hx 1 dX6_determinant_109 rfl ?_
                          refine z_iadd_n hx dX6_determinant_111 ?_
                          refine z_lald_n hx (zJA_43 E) (by omega) dX6_determinant_112 ?_
                          refine z_last_n hx (zJA_43 E) (by omega) dX6_determinant_113 ?_
                          refine z_aload_n hx 6 dX6_determinant_114 rfl rfl ?_
                          refine zg_X6_19 hx zw_595 dX6_determinant_115 ?_
                          refine z_iconst hx (v := nI 5) dX6_determinant_118 (by decide +kernel) ?_
                          refine z_iload hx 3 dX6_determinant_119 rfl ?_
                          refine z_imul_n hx dX6_determinant_121 ?_
                          refine z_iload hx 1 dX6_determinant_122 rfl ?_
                          refine z_iadd_n hx dX6_determinant_124 ?_
                          refine z_lload hx 0 dX6_determinant_125 rfl ?_
                          refine z_last_n hx (zJA_43 E) (by omega) dX6_determinant_127 ?_
                          refine z_iinc hx (w := nI (k + 1)) (lv2 := [(8, .int (nI (k + 1))), (9, .long (S.2 43 ((5 * row) + k))), (7, .int (nI row)), (6, .int (nI p)), (4, .long (Int64.ofInt (-sg))), (2, .long (Int64.ofInt (zdet p (zpm A ρ)))), (0, .ref (E.2.2.2 32)), (1, .int (nI n))]) 1 dX6_determinant_128 rfl (z_inc _) (by decide) rfl ?_
                          refine z_goto (tgt := 70) hx dX6_determinant_131 (by decide) ?_
                          exact z_to (ih70 (k + 1) (zputJ (zputJ S 43 ((5 * row) + k) (S.2 43 ((5 * p) + k))) 43 ((5 * p) + k) (S.2 43 ((5 * row) + k))) (by omega) (zfr_tr hSf (zfr_tr (zfr_putJ rfl) (zfr_putJ rfl))) (zrs_step hn (by omega) (by omega) h59 h73 hS) (by omega)) [0, 2, 3, 4, 5, 6, 7] rfl rfl
                    exact z_to (loop70 _ 0 N (Nat.zero_le _) hNf (fun a b _ _ => by rw [if_neg (Nat.not_lt_zero _)]) (Nat.lt_succ_self _)) [0, 2, 3, 1, 4, 5, 6] (by rw [zI64_neg]; rfl) rfl
                · skip
                  omega
              · skip
                refine z_iinc hx (w := nI (row + 1)) (lv2 := [(7, .int (nI (row + 1))), (6, .int (nI p)), (4, .long (Int64.ofInt sg)), (2, .long (Int64.ofInt (zdet p (zpm A ρ)))), (0, .ref (E.2.2.2 32)), (1, .int (nI n))]) 0 dX6_determinant_41 rfl (z_inc _) (by decide) rfl ?_
                refine z_goto (tgt := 18) hx dX6_determinant_44 (by decide) ?_
                exact z_to (ih18 (row + 1) (by omega) (by omega) (fun i h1 h2 => by
                    by_cases e : i = row
                    · rw [e]
                      exact (zeq64 (hB ρ hinj p row p hr1 (by omega) (Nat.le_refl _) (by omega)).1 ⟨by decide, by decide⟩).mp ((zcmp0 h38).trans (by decide +kernel))
                    · exact hz i h1 (by omega)) (by omega)) [0, 1, 2, 3, 4, 5] rfl rfl
        exact z_to (loop18 _ p (Nat.le_refl _) (by omega) (fun i h1 h2 => by omega) (Nat.lt_succ_self _)) [0, 1, 2, 3, 4, 5] rfl rfl
  exact z_to (loop8 _ 0 M (fun t => t) 1 (Nat.zero_le _) (zfr_rf _ _) ⟨fun t h => h, fun a b _ _ h => h⟩ (by rw [Int.one_mul]; rfl) (fun j hj => by rw [show j = 0 by omega]; exact (by decide : ¬ (1 : Int) = 0)) (fun i j _ h1 _ h2 => by rw [zm_0]; exact hA i j h1 h2) (Nat.lt_succ_self _)) [0, 1, 2, 3, 4] (by rw [show (1 : Int64) = Int64.ofInt 1 by decide +kernel]; rfl) rfl
