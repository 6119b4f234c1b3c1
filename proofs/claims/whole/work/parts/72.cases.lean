set_option maxHeartbeats 4000000 in
set_option maxRecDepth 100000 in
theorem zcase_0 {E : zE} {s0 : Nat} {x : zX} {b L i : Nat} {xs : Nat → Int32} {M : zM} {σ : zSt} (hI : zI E) (hw : zLw E s0 x b L xs) (hc : zCs M σ) (hm : zMs M σ) (h9 : z99 σ) (hi : i + 4 ≤ L) (nxt : ∀ (M2 : zM) (σ2 : zSt), zCs M2 σ2 → zMs M2 σ2 → z99 σ2 → zL E s0 x 1322 (zlv E b i) [] M2) : zL E s0 x 168 (zlv E b i) [] M := by
  obtain ⟨hx, hX, hbl, hs0, hL, hA, hZ⟩ := hw
  have hk := zCs_sk hc
  refine zl_aload_n hx 2 dL_law_168 rfl rfl ?_
  refine zl_aload_n hx 3 dL_law_169 rfl rfl ?_
  refine zl_iload_n hx 0 dL_law_170 rfl rfl ?_
  refine zl_iconst hx (v := nI 1) dL_law_171 (by decide +kernel) ?_
  refine zl_iadd_n hx dL_law_172 ?_
  refine zl_sld hx hX hbl hs0 hL (k := i + 1) (by omega) dL_law_173 ?_
  refine zl_callV hx hA zRc (As := [.int (xs (i + 1))]) (st := []) (k_X5_write hI M hc (xs (i + 1))) zw_202 zy_X5_write ⟨rfl, rfl⟩ (by decide) (zOB_X5 E) rfl rfl rfl rfl (Nat.le_of_ble_eq_true rfl) dL_law_174 ?_
  rintro _ M1 ⟨v1, rfl, q1⟩
  obtain ⟨rfl, hc1, hf1⟩ := q1
  have hm1 := zMs_fC hm hf1
  show zL E s0 x 177 _ _ _
  refine zl_aload_n hx 1 dL_law_177 rfl rfl ?_
  refine zl_aload_n hx 3 dL_law_178 rfl rfl ?_
  refine zl_iload_n hx 0 dL_law_179 rfl rfl ?_
  refine zl_iconst hx (v := nI 1) dL_law_180 (by decide +kernel) ?_
  refine zl_iadd_n hx dL_law_181 ?_
  refine zl_sld hx hX hbl hs0 hL (k := i + 1) (by omega) dL_law_182 ?_
  refine zl_callV hx hA zRc (As := [.int (xs (i + 1))]) (st := [_]) (k_X6_write hI M1 hm1 hk (xs (i + 1))) zw_649 zy_X6_write ⟨rfl, rfl⟩ (by decide) (zOB_X6 E) rfl rfl rfl rfl (Nat.le_of_ble_eq_true rfl) dL_law_183 ?_
  rintro _ M2 ⟨v2, rfl, q2⟩
  show zL E s0 x 186 _ _ _
  obtain ⟨rfl, hm2, hf2⟩ := q2
  have fin := nxt M2 _ (zCs_fN hc1 hf2) hm2 (z99_write h9 (xs (i + 1)))
  exact zl_icmp_eq (tgt := 1322) hx dL_law_186 (by decide) (fun _ => fin) (fun h => absurd rfl h)
set_option maxHeartbeats 4000000 in
set_option maxRecDepth 100000 in
theorem zcase_1 {E : zE} {s0 : Nat} {x : zX} {b L i : Nat} {xs : Nat → Int32} {M : zM} {σ : zSt} (hI : zI E) (hw : zLw E s0 x b L xs) (hc : zCs M σ) (hm : zMs M σ) (h9 : z99 σ) (hi : i + 4 ≤ L) (nxt : ∀ (M2 : zM) (σ2 : zSt), zCs M2 σ2 → zMs M2 σ2 → z99 σ2 → zL E s0 x 1322 (zlv E b i) [] M2) : zL E s0 x 191 (zlv E b i) [] M := by
  obtain ⟨hx, hX, hbl, hs0, hL, hA, hZ⟩ := hw
  have hk := zCs_sk hc
  refine zl_aload_n hx 2 dL_law_191 rfl rfl ?_
  refine zl_callV hx hA zRc (As := []) (st := []) (k_X5_wipe hI M hc ) zw_206 zy_X5_wipe ⟨rfl, rfl⟩ (by decide) (zOB_X5 E) rfl rfl rfl rfl (Nat.le_of_ble_eq_true rfl) dL_law_192 ?_
  rintro _ M1 ⟨v1, rfl, q1⟩
  obtain ⟨rfl, hc1, hf1⟩ := q1
  have hm1 := zMs_fC hm hf1
  show zL E s0 x 195 _ _ _
  refine zl_aload_n hx 1 dL_law_195 rfl rfl ?_
  refine zl_callV hx hA zRc (As := []) (st := [_]) (k_X6_wipe hI M1 hm1 hk ) zw_657 zy_X6_wipe ⟨rfl, rfl⟩ (by decide) (zOB_X6 E) rfl rfl rfl rfl (Nat.le_of_ble_eq_true rfl) dL_law_196 ?_
  rintro _ M2 ⟨v2, rfl, q2⟩
  show zL E s0 x 199 _ _ _
  obtain ⟨rfl, hm2, hf2⟩ := q2
  have fin := nxt M2 _ (zCs_fN hc1 hf2) hm2 (z99_wipe h9)
  exact zl_icmp_eq (tgt := 1322) hx dL_law_199 (by decide) (fun _ => fin) (fun h => absurd rfl h)
set_option maxHeartbeats 4000000 in
set_option maxRecDepth 100000 in
theorem zcase_2 {E : zE} {s0 : Nat} {x : zX} {b L i : Nat} {xs : Nat → Int32} {M : zM} {σ : zSt} (hI : zI E) (hw : zLw E s0 x b L xs) (hc : zCs M σ) (hm : zMs M σ) (h9 : z99 σ) (hi : i + 4 ≤ L) (nxt : ∀ (M2 : zM) (σ2 : zSt), zCs M2 σ2 → zMs M2 σ2 → z99 σ2 → zL E s0 x 1322 (zlv E b i) [] M2) : zL E s0 x 204 (zlv E b i) [] M := by
  obtain ⟨hx, hX, hbl, hs0, hL, hA, hZ⟩ := hw
  have hk := zCs_sk hc
  refine zl_aload_n hx 2 dL_law_204 rfl rfl ?_
  refine zl_callV hx hA zRc (As := []) (st := []) (k_X5_fault hI M hc ) zw_210 zy_X5_fault ⟨rfl, rfl⟩ (by decide) (zOB_X5 E) rfl rfl rfl rfl (Nat.le_of_ble_eq_true rfl) dL_law_205 ?_
  rintro _ M1 ⟨v1, rfl, q1⟩
  obtain ⟨q1, hM1⟩ := q1
  rw [hM1]
  show zL E s0 x 208 _ _ _
  refine zl_aload_n hx 1 dL_law_208 rfl rfl ?_
  refine zl_callV hx hA zRc (As := []) (st := [_]) (k_X6_fault hI M hm hk ) zw_661 zy_X6_fault ⟨rfl, rfl⟩ (by decide) (zOB_X6 E) rfl rfl rfl rfl (Nat.le_of_ble_eq_true rfl) dL_law_209 ?_
  rintro _ M2 ⟨v2, rfl, q2⟩
  show zL E s0 x 212 _ _ _
  obtain ⟨q2, hm2, hf2⟩ := q2
  have ev : v1 = v2 := zFt_uq q1 q2
  subst ev
  have fin := nxt M2 _ (zCs_fN hc hf2) hm2 h9
  exact zl_icmp_eq (tgt := 1322) hx dL_law_212 (by decide) (fun _ => fin) (fun h => absurd rfl h)
set_option maxHeartbeats 4000000 in
set_option maxRecDepth 100000 in
theorem zcase_3 {E : zE} {s0 : Nat} {x : zX} {b L i : Nat} {xs : Nat → Int32} {M : zM} {σ : zSt} (hI : zI E) (hw : zLw E s0 x b L xs) (hc : zCs M σ) (hm : zMs M σ) (h9 : z99 σ) (hi : i + 4 ≤ L) (nxt : ∀ (M2 : zM) (σ2 : zSt), zCs M2 σ2 → zMs M2 σ2 → z99 σ2 → zL E s0 x 1322 (zlv E b i) [] M2) : zL E s0 x 217 (zlv E b i) [] M := by
  obtain ⟨hx, hX, hbl, hs0, hL, hA, hZ⟩ := hw
  have hk := zCs_sk hc
  refine zl_aload_n hx 2 dL_law_217 rfl rfl ?_
  refine zl_callV hx hA zRc (As := []) (st := []) (k_X5_room hI M hc ) zw_236 zy_X5_room ⟨rfl, rfl⟩ (by decide) (zOB_X5 E) rfl rfl rfl rfl (Nat.le_of_ble_eq_true rfl) dL_law_218 ?_
  rintro _ M1 ⟨v1, rfl, q1⟩
  have hm1 : zMs M1 σ ∧ ((∃ n, zTok σ.1 σ.2.1 n ∧ v1 = nI n ∧ zCs M1 (σ.1, σ.2.1, (zwt σ.1, n, zmmT σ.1, zcdT σ.1, zrdR σ.1), σ.2.2.2.1, 0, (fun _ => none), σ.2.2.2.2.2.2)) ∨ ((¬ ∃ n, zTok σ.1 σ.2.1 n) ∧ v1 = -3 ∧ zCs M1 σ)) := by
    rcases q1 with ⟨n, a1, a2, a3, a4⟩ | ⟨a1, a2, a3⟩
    · exact ⟨zMs_fC hm a4, Or.inl ⟨n, a1, a2, a3⟩⟩
    · rw [a3]
      exact ⟨hm, Or.inr ⟨a1, a2, hc⟩⟩
  obtain ⟨hm1, q1⟩ := hm1
  show zL E s0 x 221 _ _ _
  refine zl_aload_n hx 1 dL_law_221 rfl rfl ?_
  refine zl_callV hx hA zRc (As := []) (st := [_]) (k_X6_room hI M1 hm1 hk ) zw_685 zy_X6_room ⟨rfl, rfl⟩ (by decide) (zOB_X6 E) rfl rfl rfl rfl (Nat.le_of_ble_eq_true rfl) dL_law_222 ?_
  rintro _ M2 ⟨v2, rfl, q2⟩
  show zL E s0 x 225 _ _ _
  have ev : v1 = v2 ∧ ∃ σ2, zCs M2 σ2 ∧ zMs M2 σ2 ∧ z99 σ2 := by
    rcases q1 with ⟨n, a1, a2, a3⟩ | ⟨a1, a2, a3⟩
    · rcases q2 with ⟨n2, b1, b2, b3, b4⟩ | ⟨b1, b2, b3, b4⟩
      · obtain rfl := zTok_uq a1 b1
        exact ⟨a2.trans (Eq.symm b2), _, zCs_fN a3 b4, b3, z99_room hk.2.1.1 a1⟩
      · exact absurd ⟨n, a1⟩ b1
    · rcases q2 with ⟨n2, b1, b2, b3, b4⟩ | ⟨b1, b2, b3, b4⟩
      · exact absurd ⟨n2, b1⟩ a1
      · exact ⟨a2.trans (Eq.symm b2), _, zCs_fN a3 b4, b3, h9⟩
  obtain ⟨ev, σ2, hc2, hm2, hz2⟩ := ev
  subst ev
  have fin := nxt M2 _ hc2 hm2 hz2
  exact zl_icmp_eq (tgt := 1322) hx dL_law_225 (by decide) (fun _ => fin) (fun h => absurd rfl h)
set_option maxHeartbeats 4000000 in
set_option maxRecDepth 100000 in
theorem zcase_4 {E : zE} {s0 : Nat} {x : zX} {b L i : Nat} {xs : Nat → Int32} {M : zM} {σ : zSt} (hI : zI E) (hw : zLw E s0 x b L xs) (hc : zCs M σ) (hm : zMs M σ) (h9 : z99 σ) (hi : i + 4 ≤ L) (nxt : ∀ (M2 : zM) (σ2 : zSt), zCs M2 σ2 → zMs M2 σ2 → z99 σ2 → zL E s0 x 1322 (zlv E b i) [] M2) : zL E s0 x 230 (zlv E b i) [] M := by
  obtain ⟨hx, hX, hbl, hs0, hL, hA, hZ⟩ := hw
  have hk := zCs_sk hc
  refine zl_aload_n hx 2 dL_law_230 rfl rfl ?_
  refine zl_aload_n hx 3 dL_law_231 rfl rfl ?_
  refine zl_iload_n hx 0 dL_law_232 rfl rfl ?_
  refine zl_iconst hx (v := nI 1) dL_law_233 (by decide +kernel) ?_
  refine zl_iadd_n hx dL_law_234 ?_
  refine zl_sld hx hX hbl hs0 hL (k := i + 1) (by omega) dL_law_235 ?_
  refine zl_callV hx hA zRc (As := [.int (xs (i + 1))]) (st := []) (k_X5_code hI M hc (xs (i + 1))) zw_276 zy_X5_code ⟨rfl, rfl⟩ (by decide) (zOB_X5 E) rfl rfl rfl rfl (Nat.le_of_ble_eq_true rfl) dL_law_236 ?_
  rintro _ M1 ⟨v1, rfl, q1⟩
  obtain ⟨rfl, hM1⟩ := q1
  rw [hM1]
  show zL E s0 x 239 _ _ _
  refine zl_aload_n hx 1 dL_law_239 rfl rfl ?_
  refine zl_aload_n hx 3 dL_law_240 rfl rfl ?_
  refine zl_iload_n hx 0 dL_law_241 rfl rfl ?_
  refine zl_iconst hx (v := nI 1) dL_law_242 (by decide +kernel) ?_
  refine zl_iadd_n hx dL_law_243 ?_
  refine zl_sld hx hX hbl hs0 hL (k := i + 1) (by omega) dL_law_244 ?_
  refine zl_callV hx hA zRc (As := [.int (xs (i + 1))]) (st := [_]) (k_X6_code hI M hm hk (xs (i + 1))) zw_692 zy_X6_code ⟨rfl, rfl⟩ (by decide) (zOB_X6 E) rfl rfl rfl rfl (Nat.le_of_ble_eq_true rfl) dL_law_245 ?_
  rintro _ M2 ⟨v2, rfl, q2⟩
  show zL E s0 x 248 _ _ _
  obtain ⟨rfl, hm2, hf2⟩ := q2
  have fin := nxt M2 _ (zCs_fN hc hf2) hm2 h9
  exact zl_icmp_eq (tgt := 1322) hx dL_law_248 (by decide) (fun _ => fin) (fun h => absurd rfl h)
set_option maxHeartbeats 4000000 in
set_option maxRecDepth 100000 in
theorem zcase_5 {E : zE} {s0 : Nat} {x : zX} {b L i : Nat} {xs : Nat → Int32} {M : zM} {σ : zSt} (hI : zI E) (hw : zLw E s0 x b L xs) (hc : zCs M σ) (hm : zMs M σ) (h9 : z99 σ) (hi : i + 4 ≤ L) (nxt : ∀ (M2 : zM) (σ2 : zSt), zCs M2 σ2 → zMs M2 σ2 → z99 σ2 → zL E s0 x 1322 (zlv E b i) [] M2) : zL E s0 x 253 (zlv E b i) [] M := by
  obtain ⟨hx, hX, hbl, hs0, hL, hA, hZ⟩ := hw
  have hk := zCs_sk hc
  refine zl_aload_n hx 2 dL_law_253 rfl rfl ?_
  refine zl_aload_n hx 3 dL_law_254 rfl rfl ?_
  refine zl_iload_n hx 0 dL_law_255 rfl rfl ?_
  refine zl_iconst hx (v := nI 1) dL_law_256 (by decide +kernel) ?_
  refine zl_iadd_n hx dL_law_257 ?_
  refine zl_sld hx hX hbl hs0 hL (k := i + 1) (by omega) dL_law_258 ?_
  refine zl_callV hx hA zRc (As := [.int (xs (i + 1))]) (st := []) (k_X5_reading hI M hc (xs (i + 1))) zw_284 zy_X5_reading ⟨rfl, rfl⟩ (by decide) (zOB_X5 E) rfl rfl rfl rfl (Nat.le_of_ble_eq_true rfl) dL_law_259 ?_
  rintro _ M1 ⟨v1, rfl, q1⟩
  obtain ⟨rfl, hM1⟩ := q1
  rw [hM1]
  show zL E s0 x 262 _ _ _
  refine zl_aload_n hx 1 dL_law_262 rfl rfl ?_
  refine zl_aload_n hx 3 dL_law_263 rfl rfl ?_
  refine zl_iload_n hx 0 dL_law_264 rfl rfl ?_
  refine zl_iconst hx (v := nI 1) dL_law_265 (by decide +kernel) ?_
  refine zl_iadd_n hx dL_law_266 ?_
  refine zl_sld hx hX hbl hs0 hL (k := i + 1) (by omega) dL_law_267 ?_
  refine zl_callV hx hA zRc (As := [.int (xs (i + 1))]) (st := [_]) (k_X6_reading hI M hm hk (xs (i + 1))) zw_700 zy_X6_reading ⟨rfl, rfl⟩ (by decide) (zOB_X6 E) rfl rfl rfl rfl (Nat.le_of_ble_eq_true rfl) dL_law_268 ?_
  rintro _ M2 ⟨v2, rfl, q2⟩
  show zL E s0 x 271 _ _ _
  obtain ⟨rfl, hm2, hf2⟩ := q2
  have fin := nxt M2 _ (zCs_fN hc hf2) hm2 h9
  exact zl_icmp_eq (tgt := 1322) hx dL_law_271 (by decide) (fun _ => fin) (fun h => absurd rfl h)
set_option maxHeartbeats 4000000 in
set_option maxRecDepth 100000 in
theorem zcase_6 {E : zE} {s0 : Nat} {x : zX} {b L i : Nat} {xs : Nat → Int32} {M : zM} {σ : zSt} (hI : zI E) (hw : zLw E s0 x b L xs) (hc : zCs M σ) (hm : zMs M σ) (h9 : z99 σ) (hi : i + 4 ≤ L) (nxt : ∀ (M2 : zM) (σ2 : zSt), zCs M2 σ2 → zMs M2 σ2 → z99 σ2 → zL E s0 x 1322 (zlv E b i) [] M2) : zL E s0 x 276 (zlv E b i) [] M := by
  obtain ⟨hx, hX, hbl, hs0, hL, hA, hZ⟩ := hw
  have hk := zCs_sk hc
  refine zl_aload_n hx 2 dL_law_276 rfl rfl ?_
  refine zl_aload_n hx 3 dL_law_277 rfl rfl ?_
  refine zl_iload_n hx 0 dL_law_278 rfl rfl ?_
  refine zl_iconst hx (v := nI 1) dL_law_279 (by decide +kernel) ?_
  refine zl_iadd_n hx dL_law_280 ?_
  refine zl_sld hx hX hbl hs0 hL (k := i + 1) (by omega) dL_law_281 ?_
  refine zl_aload_n hx 3 dL_law_282 rfl rfl ?_
  refine zl_iload_n hx 0 dL_law_283 rfl rfl ?_
  refine zl_iconst hx (v := nI 2) dL_law_284 (by decide +kernel) ?_
  refine zl_iadd_n hx dL_law_285 ?_
  refine zl_sld hx hX hbl hs0 hL (k := i + 2) (by omega) dL_law_286 ?_
  refine zl_callV hx hA zRc (As := [.int (xs (i + 1)), .int (xs (i + 2))]) (st := []) (k_X5_weigh hI M hc (xs (i + 1)) (xs (i + 2))) zw_288 zy_X5_weigh ⟨rfl, rfl⟩ (by decide) (zOB_X5 E) rfl rfl rfl rfl (Nat.le_of_ble_eq_true rfl) dL_law_287 ?_
  rintro _ M1 ⟨v1, rfl, q1⟩
  obtain ⟨rfl, hc1, hf1⟩ := q1
  have hm1 := zMs_fC hm hf1
  show zL E s0 x 290 _ _ _
  refine zl_aload_n hx 1 dL_law_290 rfl rfl ?_
  refine zl_aload_n hx 3 dL_law_291 rfl rfl ?_
  refine zl_iload_n hx 0 dL_law_292 rfl rfl ?_
  refine zl_iconst hx (v := nI 1) dL_law_293 (by decide +kernel) ?_
  refine zl_iadd_n hx dL_law_294 ?_
  refine zl_sld hx hX hbl hs0 hL (k := i + 1) (by omega) dL_law_295 ?_
  refine zl_aload_n hx 3 dL_law_296 rfl rfl ?_
  refine zl_iload_n hx 0 dL_law_297 rfl rfl ?_
  refine zl_iconst hx (v := nI 2) dL_law_298 (by decide +kernel) ?_
  refine zl_iadd_n hx dL_law_299 ?_
  refine zl_sld hx hX hbl hs0 hL (k := i + 2) (by omega) dL_law_300 ?_
  refine zl_callV hx hA zRc (As := [.int (xs (i + 1)), .int (xs (i + 2))]) (st := [_]) (k_X6_weigh hI M1 hm1 hk (xs (i + 1)) (xs (i + 2))) zw_704 zy_X6_weigh ⟨rfl, rfl⟩ (by decide) (zOB_X6 E) rfl rfl rfl rfl (Nat.le_of_ble_eq_true rfl) dL_law_301 ?_
  rintro _ M2 ⟨v2, rfl, q2⟩
  show zL E s0 x 304 _ _ _
  obtain ⟨rfl, hm2, hf2⟩ := q2
  have fin := nxt M2 _ (zCs_fN hc1 hf2) hm2 (z99_weigh h9 hk (xs (i + 1)) (xs (i + 2)))
  exact zl_icmp_eq (tgt := 1322) hx dL_law_304 (by decide) (fun _ => fin) (fun h => absurd rfl h)
set_option maxHeartbeats 4000000 in
set_option maxRecDepth 100000 in
theorem zcase_7 {E : zE} {s0 : Nat} {x : zX} {b L i : Nat} {xs : Nat → Int32} {M : zM} {σ : zSt} (hI : zI E) (hw : zLw E s0 x b L xs) (hc : zCs M σ) (hm : zMs M σ) (h9 : z99 σ) (hi : i + 4 ≤ L) (nxt : ∀ (M2 : zM) (σ2 : zSt), zCs M2 σ2 → zMs M2 σ2 → z99 σ2 → zL E s0 x 1322 (zlv E b i) [] M2) : zL E s0 x 309 (zlv E b i) [] M := by
  obtain ⟨hx, hX, hbl, hs0, hL, hA, hZ⟩ := hw
  have hk := zCs_sk hc
  refine zl_aload_n hx 2 dL_law_309 rfl rfl ?_
  refine zl_aload_n hx 3 dL_law_310 rfl rfl ?_
  refine zl_iload_n hx 0 dL_law_311 rfl rfl ?_
  refine zl_iconst hx (v := nI 1) dL_law_312 (by decide +kernel) ?_
  refine zl_iadd_n hx dL_law_313 ?_
  refine zl_sld hx hX hbl hs0 hL (k := i + 1) (by omega) dL_law_314 ?_
  refine zl_callV hx hA zRc (As := [.int (xs (i + 1))]) (st := []) (k_X5_take hI M hc (xs (i + 1))) zw_313 zy_X5_take ⟨rfl, rfl⟩ (by decide) (zOB_X5 E) rfl rfl rfl rfl (Nat.le_of_ble_eq_true rfl) dL_law_315 ?_
  rintro _ M1 ⟨v1, rfl, q1⟩
  obtain ⟨rfl, hc1, hf1⟩ := q1
  have hm1 := zMs_fC hm hf1
  show zL E s0 x 318 _ _ _
  refine zl_aload_n hx 1 dL_law_318 rfl rfl ?_
  refine zl_aload_n hx 3 dL_law_319 rfl rfl ?_
  refine zl_iload_n hx 0 dL_law_320 rfl rfl ?_
  refine zl_iconst hx (v := nI 1) dL_law_321 (by decide +kernel) ?_
  refine zl_iadd_n hx dL_law_322 ?_
  refine zl_sld hx hX hbl hs0 hL (k := i + 1) (by omega) dL_law_323 ?_
  refine zl_callV hx hA zRc (As := [.int (xs (i + 1))]) (st := [_]) (k_X6_take hI M1 hm1 hk (xs (i + 1))) zw_721 zy_X6_take ⟨rfl, rfl⟩ (by decide) (zOB_X6 E) rfl rfl rfl rfl (Nat.le_of_ble_eq_true rfl) dL_law_324 ?_
  rintro _ M2 ⟨v2, rfl, q2⟩
  show zL E s0 x 327 _ _ _
  obtain ⟨rfl, hm2, hf2⟩ := q2
  have fin := nxt M2 _ (zCs_fN hc1 hf2) hm2 (z99_take h9 hk (xs (i + 1)))
  exact zl_icmp_eq (tgt := 1322) hx dL_law_327 (by decide) (fun _ => fin) (fun h => absurd rfl h)
set_option maxHeartbeats 4000000 in
set_option maxRecDepth 100000 in
theorem zcase_8 {E : zE} {s0 : Nat} {x : zX} {b L i : Nat} {xs : Nat → Int32} {M : zM} {σ : zSt} (hI : zI E) (hw : zLw E s0 x b L xs) (hc : zCs M σ) (hm : zMs M σ) (h9 : z99 σ) (hi : i + 4 ≤ L) (nxt : ∀ (M2 : zM) (σ2 : zSt), zCs M2 σ2 → zMs M2 σ2 → z99 σ2 → zL E s0 x 1322 (zlv E b i) [] M2) : zL E s0 x 332 (zlv E b i) [] M := by
  obtain ⟨hx, hX, hbl, hs0, hL, hA, hZ⟩ := hw
  have hk := zCs_sk hc
  refine zl_aload_n hx 2 dL_law_332 rfl rfl ?_
  refine zl_aload_n hx 3 dL_law_333 rfl rfl ?_
  refine zl_iload_n hx 0 dL_law_334 rfl rfl ?_
  refine zl_iconst hx (v := nI 1) dL_law_335 (by decide +kernel) ?_
  refine zl_iadd_n hx dL_law_336 ?_
  refine zl_sld hx hX hbl hs0 hL (k := i + 1) (by omega) dL_law_337 ?_
  refine zl_aload_n hx 3 dL_law_338 rfl rfl ?_
  refine zl_iload_n hx 0 dL_law_339 rfl rfl ?_
  refine zl_iconst hx (v := nI 2) dL_law_340 (by decide +kernel) ?_
  refine zl_iadd_n hx dL_law_341 ?_
  refine zl_sld hx hX hbl hs0 hL (k := i + 2) (by omega) dL_law_342 ?_
  refine zl_callV hx hA zRc (As := [.int (xs (i + 1)), .int (xs (i + 2))]) (st := []) (k_X5_swap hI M hc (xs (i + 1)) (xs (i + 2))) zw_321 zy_X5_swap ⟨rfl, rfl⟩ (by decide) (zOB_X5 E) rfl rfl rfl rfl (Nat.le_of_ble_eq_true rfl) dL_law_343 ?_
  rintro _ M1 ⟨v1, rfl, q1⟩
  obtain ⟨rfl, hc1, hf1⟩ := q1
  have hm1 := zMs_fC hm hf1
  show zL E s0 x 346 _ _ _
  refine zl_aload_n hx 1 dL_law_346 rfl rfl ?_
  refine zl_aload_n hx 3 dL_law_347 rfl rfl ?_
  refine zl_iload_n hx 0 dL_law_348 rfl rfl ?_
  refine zl_iconst hx (v := nI 1) dL_law_349 (by decide +kernel) ?_
  refine zl_iadd_n hx dL_law_350 ?_
  refine zl_sld hx hX hbl hs0 hL (k := i + 1) (by omega) dL_law_351 ?_
  refine zl_aload_n hx 3 dL_law_352 rfl rfl ?_
  refine zl_iload_n hx 0 dL_law_353 rfl rfl ?_
  refine zl_iconst hx (v := nI 2) dL_law_354 (by decide +kernel) ?_
  refine zl_iadd_n hx dL_law_355 ?_
  refine zl_sld hx hX hbl hs0 hL (k := i + 2) (by omega) dL_law_356 ?_
  refine zl_callV hx hA zRc (As := [.int (xs (i + 1)), .int (xs (i + 2))]) (st := [_]) (k_X6_swap hI M1 hm1 hk (xs (i + 1)) (xs (i + 2))) zw_728 zy_X6_swap ⟨rfl, rfl⟩ (by decide) (zOB_X6 E) rfl rfl rfl rfl (Nat.le_of_ble_eq_true rfl) dL_law_357 ?_
  rintro _ M2 ⟨v2, rfl, q2⟩
  show zL E s0 x 360 _ _ _
  obtain ⟨rfl, hm2, hf2⟩ := q2
  have fin := nxt M2 _ (zCs_fN hc1 hf2) hm2 (z99_swap h9 hk (xs (i + 1)) (xs (i + 2)))
  exact zl_icmp_eq (tgt := 1322) hx dL_law_360 (by decide) (fun _ => fin) (fun h => absurd rfl h)
set_option maxHeartbeats 4000000 in
set_option maxRecDepth 100000 in
theorem zcase_9 {E : zE} {s0 : Nat} {x : zX} {b L i : Nat} {xs : Nat → Int32} {M : zM} {σ : zSt} (hI : zI E) (hw : zLw E s0 x b L xs) (hc : zCs M σ) (hm : zMs M σ) (h9 : z99 σ) (hi : i + 4 ≤ L) (nxt : ∀ (M2 : zM) (σ2 : zSt), zCs M2 σ2 → zMs M2 σ2 → z99 σ2 → zL E s0 x 1322 (zlv E b i) [] M2) : zL E s0 x 365 (zlv E b i) [] M := by
  obtain ⟨hx, hX, hbl, hs0, hL, hA, hZ⟩ := hw
  have hk := zCs_sk hc
  refine zl_aload_n hx 2 dL_law_365 rfl rfl ?_
  refine zl_aload_n hx 3 dL_law_366 rfl rfl ?_
  refine zl_iload_n hx 0 dL_law_367 rfl rfl ?_
  refine zl_iconst hx (v := nI 1) dL_law_368 (by decide +kernel) ?_
  refine zl_iadd_n hx dL_law_369 ?_
  refine zl_sld hx hX hbl hs0 hL (k := i + 1) (by omega) dL_law_370 ?_
  refine zl_aload_n hx 3 dL_law_371 rfl rfl ?_
  refine zl_iload_n hx 0 dL_law_372 rfl rfl ?_
  refine zl_iconst hx (v := nI 2) dL_law_373 (by decide +kernel) ?_
  refine zl_iadd_n hx dL_law_374 ?_
  refine zl_sld hx hX hbl hs0 hL (k := i + 2) (by omega) dL_law_375 ?_
  refine zl_callV hx hA zRc (As := [.int (xs (i + 1)), .int (xs (i + 2))]) (st := []) (k_X5_read hI M hc (xs (i + 1)) (xs (i + 2))) zw_329 zy_X5_read ⟨rfl, rfl⟩ (by decide) (zOB_X5 E) rfl rfl rfl rfl (Nat.le_of_ble_eq_true rfl) dL_law_376 ?_
  rintro _ M1 ⟨v1, rfl, q1⟩
  obtain ⟨rfl, hc1, hf1⟩ := q1
  have hm1 := zMs_fC hm hf1
  show zL E s0 x 379 _ _ _
  refine zl_aload_n hx 1 dL_law_379 rfl rfl ?_
  refine zl_aload_n hx 3 dL_law_380 rfl rfl ?_
  refine zl_iload_n hx 0 dL_law_381 rfl rfl ?_
  refine zl_iconst hx (v := nI 1) dL_law_382 (by decide +kernel) ?_
  refine zl_iadd_n hx dL_law_383 ?_
  refine zl_sld hx hX hbl hs0 hL (k := i + 1) (by omega) dL_law_384 ?_
  refine zl_aload_n hx 3 dL_law_385 rfl rfl ?_
  refine zl_iload_n hx 0 dL_law_386 rfl rfl ?_
  refine zl_iconst hx (v := nI 2) dL_law_387 (by decide +kernel) ?_
  refine zl_iadd_n hx dL_law_388 ?_
  refine zl_sld hx hX hbl hs0 hL (k := i + 2) (by omega) dL_law_389 ?_
  refine zl_callV hx hA zRc (As := [.int (xs (i + 1)), .int (xs (i + 2))]) (st := [_]) (k_X6_read hI M1 hm1 hk (xs (i + 1)) (xs (i + 2))) zw_735 zy_X6_read ⟨rfl, rfl⟩ (by decide) (zOB_X6 E) rfl rfl rfl rfl (Nat.le_of_ble_eq_true rfl) dL_law_390 ?_
  rintro _ M2 ⟨v2, rfl, q2⟩
  show zL E s0 x 393 _ _ _
  obtain ⟨rfl, hm2, hf2⟩ := q2
  have fin := nxt M2 _ (zCs_fN hc1 hf2) hm2 (z99_read h9 hk (xs (i + 1)) (xs (i + 2)))
  exact zl_icmp_eq (tgt := 1322) hx dL_law_393 (by decide) (fun _ => fin) (fun h => absurd rfl h)
set_option maxHeartbeats 4000000 in
set_option maxRecDepth 100000 in
theorem zcase_10 {E : zE} {s0 : Nat} {x : zX} {b L i : Nat} {xs : Nat → Int32} {M : zM} {σ : zSt} (hI : zI E) (hw : zLw E s0 x b L xs) (hc : zCs M σ) (hm : zMs M σ) (h9 : z99 σ) (hi : i + 4 ≤ L) (nxt : ∀ (M2 : zM) (σ2 : zSt), zCs M2 σ2 → zMs M2 σ2 → z99 σ2 → zL E s0 x 1322 (zlv E b i) [] M2) : zL E s0 x 398 (zlv E b i) [] M := by
  obtain ⟨hx, hX, hbl, hs0, hL, hA, hZ⟩ := hw
  have hk := zCs_sk hc
  refine zl_aload_n hx 2 dL_law_398 rfl rfl ?_
  refine zl_aload_n hx 3 dL_law_399 rfl rfl ?_
  refine zl_iload_n hx 0 dL_law_400 rfl rfl ?_
  refine zl_iconst hx (v := nI 1) dL_law_401 (by decide +kernel) ?_
  refine zl_iadd_n hx dL_law_402 ?_
  refine zl_sld hx hX hbl hs0 hL (k := i + 1) (by omega) dL_law_403 ?_
  refine zl_callV hx hA zRc (As := [.int (xs (i + 1))]) (st := []) (k_X5_master hI M hc (xs (i + 1))) zw_333 zy_X5_master ⟨rfl, rfl⟩ (by decide) (zOB_X5 E) rfl rfl rfl rfl (Nat.le_of_ble_eq_true rfl) dL_law_404 ?_
  rintro _ M1 ⟨v1, rfl, q1⟩
  obtain ⟨rfl, hc1, hf1⟩ := q1
  have hm1 := zMs_fC hm hf1
  show zL E s0 x 407 _ _ _
  refine zl_aload_n hx 1 dL_law_407 rfl rfl ?_
  refine zl_aload_n hx 3 dL_law_408 rfl rfl ?_
  refine zl_iload_n hx 0 dL_law_409 rfl rfl ?_
  refine zl_iconst hx (v := nI 1) dL_law_410 (by decide +kernel) ?_
  refine zl_iadd_n hx dL_law_411 ?_
  refine zl_sld hx hX hbl hs0 hL (k := i + 1) (by omega) dL_law_412 ?_
  refine zl_callV hx hA zRc (As := [.int (xs (i + 1))]) (st := [_]) (k_X6_master hI M1 hm1 hk (xs (i + 1))) zw_739 zy_X6_master ⟨rfl, rfl⟩ (by decide) (zOB_X6 E) rfl rfl rfl rfl (Nat.le_of_ble_eq_true rfl) dL_law_413 ?_
  rintro _ M2 ⟨v2, rfl, q2⟩
  show zL E s0 x 416 _ _ _
  obtain ⟨rfl, hm2, hf2⟩ := q2
  have fin := nxt M2 _ (zCs_fN hc1 hf2) hm2 (z99_master h9 hk (xs (i + 1)))
  exact zl_icmp_eq (tgt := 1322) hx dL_law_416 (by decide) (fun _ => fin) (fun h => absurd rfl h)
set_option maxHeartbeats 4000000 in
set_option maxRecDepth 100000 in
theorem zcase_11 {E : zE} {s0 : Nat} {x : zX} {b L i : Nat} {xs : Nat → Int32} {M : zM} {σ : zSt} (hI : zI E) (hw : zLw E s0 x b L xs) (hc : zCs M σ) (hm : zMs M σ) (h9 : z99 σ) (hi : i + 4 ≤ L) (nxt : ∀ (M2 : zM) (σ2 : zSt), zCs M2 σ2 → zMs M2 σ2 → z99 σ2 → zL E s0 x 1322 (zlv E b i) [] M2) : zL E s0 x 421 (zlv E b i) [] M := by
  obtain ⟨hx, hX, hbl, hs0, hL, hA, hZ⟩ := hw
  have hk := zCs_sk hc
  refine zl_aload_n hx 2 dL_law_421 rfl rfl ?_
  refine zl_callV hx hA zRc (As := []) (st := []) (k_X5_undo hI M hc ) zw_337 zy_X5_undo ⟨rfl, rfl⟩ (by decide) (zOB_X5 E) rfl rfl rfl rfl (Nat.le_of_ble_eq_true rfl) dL_law_422 ?_
  rintro _ M1 ⟨v1, rfl, q1⟩
  obtain ⟨rfl, hc1, hf1⟩ := q1
  have hm1 := zMs_fC hm hf1
  show zL E s0 x 425 _ _ _
  refine zl_aload_n hx 1 dL_law_425 rfl rfl ?_
  refine zl_callV hx hA zRc (As := []) (st := [_]) (k_X6_undo hI M1 hm1 hk ) zw_744 zy_X6_undo ⟨rfl, rfl⟩ (by decide) (zOB_X6 E) rfl rfl rfl rfl (Nat.le_of_ble_eq_true rfl) dL_law_426 ?_
  rintro _ M2 ⟨v2, rfl, q2⟩
  show zL E s0 x 429 _ _ _
  obtain ⟨rfl, hm2, hf2⟩ := q2
  have fin := nxt M2 _ (zCs_fN hc1 hf2) hm2 (z99_undo h9)
  exact zl_icmp_eq (tgt := 1322) hx dL_law_429 (by decide) (fun _ => fin) (fun h => absurd rfl h)
set_option maxHeartbeats 4000000 in
set_option maxRecDepth 100000 in
theorem zcase_12 {E : zE} {s0 : Nat} {x : zX} {b L i : Nat} {xs : Nat → Int32} {M : zM} {σ : zSt} (hI : zI E) (hw : zLw E s0 x b L xs) (hc : zCs M σ) (hm : zMs M σ) (h9 : z99 σ) (hi : i + 4 ≤ L) (nxt : ∀ (M2 : zM) (σ2 : zSt), zCs M2 σ2 → zMs M2 σ2 → z99 σ2 → zL E s0 x 1322 (zlv E b i) [] M2) : zL E s0 x 434 (zlv E b i) [] M := by
  obtain ⟨hx, hX, hbl, hs0, hL, hA, hZ⟩ := hw
  have hk := zCs_sk hc
  refine zl_aload_n hx 2 dL_law_434 rfl rfl ?_
  refine zl_aload_n hx 3 dL_law_435 rfl rfl ?_
  refine zl_iload_n hx 0 dL_law_436 rfl rfl ?_
  refine zl_iconst hx (v := nI 1) dL_law_437 (by decide +kernel) ?_
  refine zl_iadd_n hx dL_law_438 ?_
  refine zl_sld hx hX hbl hs0 hL (k := i + 1) (by omega) dL_law_439 ?_
  refine zl_bool hx dL_law_440 dL_law_443 dL_law_444 dL_law_447 ?_
  refine zl_callV hx hA zRc (As := [.int (zdr (!decide (xs (i + 1) = 0)))]) (st := []) (k_X5_rank hI M hc (!decide (xs (i + 1) = 0))) zw_345 zy_X5_rank ⟨rfl, rfl⟩ (by decide) (zOB_X5 E) rfl rfl rfl rfl (Nat.le_of_ble_eq_true rfl) dL_law_448 ?_
  rintro _ M1 ⟨v1, rfl, q1⟩
  obtain ⟨rfl, hc1, hf1⟩ := q1
  have hm1 := zMs_fC hm hf1
  show zL E s0 x 451 _ _ _
  refine zl_aload_n hx 1 dL_law_451 rfl rfl ?_
  refine zl_aload_n hx 3 dL_law_452 rfl rfl ?_
  refine zl_iload_n hx 0 dL_law_453 rfl rfl ?_
  refine zl_iconst hx (v := nI 1) dL_law_454 (by decide +kernel) ?_
  refine zl_iadd_n hx dL_law_455 ?_
  refine zl_sld hx hX hbl hs0 hL (k := i + 1) (by omega) dL_law_456 ?_
  refine zl_bool hx dL_law_457 dL_law_460 dL_law_461 dL_law_464 ?_
  refine zl_callV hx hA zRc (As := [.int (zdr (!decide (xs (i + 1) = 0)))]) (st := [_]) (k_X6_rank hI M1 hm1 hk (!decide (xs (i + 1) = 0))) zw_748 zy_X6_rank ⟨rfl, rfl⟩ (by decide) (zOB_X6 E) rfl rfl rfl rfl (Nat.le_of_ble_eq_true rfl) dL_law_465 ?_
  rintro _ M2 ⟨v2, rfl, q2⟩
  show zL E s0 x 468 _ _ _
  obtain ⟨rfl, hm2, hf2⟩ := q2
  have fin := nxt M2 _ (zCs_fN hc1 hf2) hm2 h9
  exact zl_icmp_eq (tgt := 1322) hx dL_law_468 (by decide) (fun _ => fin) (fun h => absurd rfl h)
set_option maxHeartbeats 4000000 in
set_option maxRecDepth 100000 in
theorem zcase_13 {E : zE} {s0 : Nat} {x : zX} {b L i : Nat} {xs : Nat → Int32} {M : zM} {σ : zSt} (hI : zI E) (hw : zLw E s0 x b L xs) (hc : zCs M σ) (hm : zMs M σ) (h9 : z99 σ) (hi : i + 4 ≤ L) (nxt : ∀ (M2 : zM) (σ2 : zSt), zCs M2 σ2 → zMs M2 σ2 → z99 σ2 → zL E s0 x 1322 (zlv E b i) [] M2) : zL E s0 x 473 (zlv E b i) [] M := by
  obtain ⟨hx, hX, hbl, hs0, hL, hA, hZ⟩ := hw
  have hk := zCs_sk hc
  refine zl_aload_n hx 2 dL_law_473 rfl rfl ?_
  refine zl_aload_n hx 3 dL_law_474 rfl rfl ?_
  refine zl_iload_n hx 0 dL_law_475 rfl rfl ?_
  refine zl_iconst hx (v := nI 1) dL_law_476 (by decide +kernel) ?_
  refine zl_iadd_n hx dL_law_477 ?_
  refine zl_sld hx hX hbl hs0 hL (k := i + 1) (by omega) dL_law_478 ?_
  refine zl_aload_n hx 3 dL_law_479 rfl rfl ?_
  refine zl_iload_n hx 0 dL_law_480 rfl rfl ?_
  refine zl_iconst hx (v := nI 2) dL_law_481 (by decide +kernel) ?_
  refine zl_iadd_n hx dL_law_482 ?_
  refine zl_sld hx hX hbl hs0 hL (k := i + 2) (by omega) dL_law_483 ?_
  refine zl_bool hx dL_law_484 dL_law_487 dL_law_488 dL_law_491 ?_
  refine zl_aload_n hx 3 dL_law_492 rfl rfl ?_
  refine zl_iload_n hx 0 dL_law_493 rfl rfl ?_
  refine zl_iconst hx (v := nI 3) dL_law_494 (by decide +kernel) ?_
  refine zl_iadd_n hx dL_law_495 ?_
  refine zl_sld hx hX hbl hs0 hL (k := i + 3) (by omega) dL_law_496 ?_
  refine zl_bool hx dL_law_497 dL_law_500 dL_law_501 dL_law_504 ?_
  refine zl_callV hx hA zRc (As := [.int (xs (i + 1)), .int (zdr (!decide (xs (i + 2) = 0))), .int (zdr (!decide (xs (i + 3) = 0)))]) (st := []) (k_X5_value hI M hc zThy (xs (i + 1)) (!decide (xs (i + 2) = 0)) (!decide (xs (i + 3) = 0))) zw_372 zy_X5_value ⟨rfl, rfl⟩ (by decide) (zOB_X5 E) rfl rfl rfl rfl (Nat.le_of_ble_eq_true rfl) dL_law_505 ?_
  rintro _ M1 ⟨v1, rfl, q1⟩
  obtain ⟨rfl, hc1, hf1⟩ := q1
  have hm1 := zMs_fC hm hf1
  show zL E s0 x 508 _ _ _
  refine zl_aload_n hx 1 dL_law_508 rfl rfl ?_
  refine zl_aload_n hx 3 dL_law_509 rfl rfl ?_
  refine zl_iload_n hx 0 dL_law_510 rfl rfl ?_
  refine zl_iconst hx (v := nI 1) dL_law_511 (by decide +kernel) ?_
  refine zl_iadd_n hx dL_law_512 ?_
  refine zl_sld hx hX hbl hs0 hL (k := i + 1) (by omega) dL_law_513 ?_
  refine zl_aload_n hx 3 dL_law_514 rfl rfl ?_
  refine zl_iload_n hx 0 dL_law_515 rfl rfl ?_
  refine zl_iconst hx (v := nI 2) dL_law_516 (by decide +kernel) ?_
  refine zl_iadd_n hx dL_law_517 ?_
  refine zl_sld hx hX hbl hs0 hL (k := i + 2) (by omega) dL_law_518 ?_
  refine zl_bool hx dL_law_519 dL_law_522 dL_law_523 dL_law_526 ?_
  refine zl_aload_n hx 3 dL_law_527 rfl rfl ?_
  refine zl_iload_n hx 0 dL_law_528 rfl rfl ?_
  refine zl_iconst hx (v := nI 3) dL_law_529 (by decide +kernel) ?_
  refine zl_iadd_n hx dL_law_530 ?_
  refine zl_sld hx hX hbl hs0 hL (k := i + 3) (by omega) dL_law_531 ?_
  refine zl_bool hx dL_law_532 dL_law_535 dL_law_536 dL_law_539 ?_
  refine zl_callV hx hA zRc (As := [.int (xs (i + 1)), .int (zdr (!decide (xs (i + 2) = 0))), .int (zdr (!decide (xs (i + 3) = 0)))]) (st := [_]) (k_X6_value hI M1 hm1 hk (xs (i + 1)) (!decide (xs (i + 2) = 0)) (!decide (xs (i + 3) = 0))) zw_792 zy_X6_value ⟨rfl, rfl⟩ (by decide) (zOB_X6 E) rfl rfl rfl rfl (Nat.le_of_ble_eq_true rfl) dL_law_540 ?_
  rintro _ M2 ⟨v2, rfl, q2⟩
  show zL E s0 x 543 _ _ _
  obtain ⟨rfl, hm2, hf2⟩ := q2
  have fin := nxt M2 _ (zCs_fN hc1 hf2) hm2 h9
  refine zl_lcmp hx dL_law_543 ?_
  exact zl_if_eq (tgt := 1322) hx dL_law_544 (by decide) (fun _ => fin) (fun h => absurd ((lg_cmp_eq _ _).mpr rfl) h)
set_option maxHeartbeats 4000000 in
set_option maxRecDepth 100000 in
theorem zcase_14 {E : zE} {s0 : Nat} {x : zX} {b L i : Nat} {xs : Nat → Int32} {M : zM} {σ : zSt} (hI : zI E) (hw : zLw E s0 x b L xs) (hc : zCs M σ) (hm : zMs M σ) (h9 : z99 σ) (hi : i + 4 ≤ L) (nxt : ∀ (M2 : zM) (σ2 : zSt), zCs M2 σ2 → zMs M2 σ2 → z99 σ2 → zL E s0 x 1322 (zlv E b i) [] M2) : zL E s0 x 549 (zlv E b i) [] M := by
  obtain ⟨hx, hX, hbl, hs0, hL, hA, hZ⟩ := hw
  have hk := zCs_sk hc
  refine zl_aload_n hx 2 dL_law_549 rfl rfl ?_
  refine zl_aload_n hx 3 dL_law_550 rfl rfl ?_
  refine zl_iload_n hx 0 dL_law_551 rfl rfl ?_
  refine zl_iconst hx (v := nI 1) dL_law_552 (by decide +kernel) ?_
  refine zl_iadd_n hx dL_law_553 ?_
  refine zl_sld hx hX hbl hs0 hL (k := i + 1) (by omega) dL_law_554 ?_
  refine zl_aload_n hx 3 dL_law_555 rfl rfl ?_
  refine zl_iload_n hx 0 dL_law_556 rfl rfl ?_
  refine zl_iconst hx (v := nI 2) dL_law_557 (by decide +kernel) ?_
  refine zl_iadd_n hx dL_law_558 ?_
  refine zl_sld hx hX hbl hs0 hL (k := i + 2) (by omega) dL_law_559 ?_
  refine zl_bool hx dL_law_560 dL_law_563 dL_law_564 dL_law_567 ?_
  refine zl_aload_n hx 3 dL_law_568 rfl rfl ?_
  refine zl_iload_n hx 0 dL_law_569 rfl rfl ?_
  refine zl_iconst hx (v := nI 3) dL_law_570 (by decide +kernel) ?_
  refine zl_iadd_n hx dL_law_571 ?_
  refine zl_sld hx hX hbl hs0 hL (k := i + 3) (by omega) dL_law_572 ?_
  refine zl_bool hx dL_law_573 dL_law_576 dL_law_577 dL_law_580 ?_
  refine zl_callV hx hA zRc (As := [.int (xs (i + 1)), .int (zdr (!decide (xs (i + 2) = 0))), .int (zdr (!decide (xs (i + 3) = 0)))]) (st := []) (k_X5_spread hI M hc zThy (xs (i + 1)) (!decide (xs (i + 2) = 0)) (!decide (xs (i + 3) = 0))) zw_422 zy_X5_spread ⟨rfl, rfl⟩ (by decide) (zOB_X5 E) rfl rfl rfl rfl (Nat.le_of_ble_eq_true rfl) dL_law_581 ?_
  rintro _ M1 ⟨v1, rfl, q1⟩
  obtain ⟨rfl, hc1, hf1⟩ := q1
  have hm1 := zMs_fC hm hf1
  show zL E s0 x 584 _ _ _
  refine zl_aload_n hx 1 dL_law_584 rfl rfl ?_
  refine zl_aload_n hx 3 dL_law_585 rfl rfl ?_
  refine zl_iload_n hx 0 dL_law_586 rfl rfl ?_
  refine zl_iconst hx (v := nI 1) dL_law_587 (by decide +kernel) ?_
  refine zl_iadd_n hx dL_law_588 ?_
  refine zl_sld hx hX hbl hs0 hL (k := i + 1) (by omega) dL_law_589 ?_
  refine zl_aload_n hx 3 dL_law_590 rfl rfl ?_
  refine zl_iload_n hx 0 dL_law_591 rfl rfl ?_
  refine zl_iconst hx (v := nI 2) dL_law_592 (by decide +kernel) ?_
  refine zl_iadd_n hx dL_law_593 ?_
  refine zl_sld hx hX hbl hs0 hL (k := i + 2) (by omega) dL_law_594 ?_
  refine zl_bool hx dL_law_595 dL_law_598 dL_law_599 dL_law_602 ?_
  refine zl_aload_n hx 3 dL_law_603 rfl rfl ?_
  refine zl_iload_n hx 0 dL_law_604 rfl rfl ?_
  refine zl_iconst hx (v := nI 3) dL_law_605 (by decide +kernel) ?_
  refine zl_iadd_n hx dL_law_606 ?_
  refine zl_sld hx hX hbl hs0 hL (k := i + 3) (by omega) dL_law_607 ?_
  refine zl_bool hx dL_law_608 dL_law_611 dL_law_612 dL_law_615 ?_
  refine zl_callV hx hA zRc (As := [.int (xs (i + 1)), .int (zdr (!decide (xs (i + 2) = 0))), .int (zdr (!decide (xs (i + 3) = 0)))]) (st := [_]) (k_X6_spread hI M1 hm1 hk (xs (i + 1)) (!decide (xs (i + 2) = 0)) (!decide (xs (i + 3) = 0))) zw_817 zy_X6_spread ⟨rfl, rfl⟩ (by decide) (zOB_X6 E) rfl rfl rfl rfl (Nat.le_of_ble_eq_true rfl) dL_law_616 ?_
  rintro _ M2 ⟨v2, rfl, q2⟩
  show zL E s0 x 619 _ _ _
  obtain ⟨rfl, hm2, hf2⟩ := q2
  have fin := nxt M2 _ (zCs_fN hc1 hf2) hm2 h9
  refine zl_lcmp hx dL_law_619 ?_
  exact zl_if_eq (tgt := 1322) hx dL_law_620 (by decide) (fun _ => fin) (fun h => absurd ((lg_cmp_eq _ _).mpr rfl) h)
set_option maxHeartbeats 4000000 in
set_option maxRecDepth 100000 in
theorem zcase_15 {E : zE} {s0 : Nat} {x : zX} {b L i : Nat} {xs : Nat → Int32} {M : zM} {σ : zSt} (hI : zI E) (hw : zLw E s0 x b L xs) (hc : zCs M σ) (hm : zMs M σ) (h9 : z99 σ) (hi : i + 4 ≤ L) (nxt : ∀ (M2 : zM) (σ2 : zSt), zCs M2 σ2 → zMs M2 σ2 → z99 σ2 → zL E s0 x 1322 (zlv E b i) [] M2) : zL E s0 x 625 (zlv E b i) [] M := by
  obtain ⟨hx, hX, hbl, hs0, hL, hA, hZ⟩ := hw
  have hk := zCs_sk hc
  refine zl_aload_n hx 2 dL_law_625 rfl rfl ?_
  refine zl_aload_n hx 3 dL_law_626 rfl rfl ?_
  refine zl_iload_n hx 0 dL_law_627 rfl rfl ?_
  refine zl_iconst hx (v := nI 1) dL_law_628 (by decide +kernel) ?_
  refine zl_iadd_n hx dL_law_629 ?_
  refine zl_sld hx hX hbl hs0 hL (k := i + 1) (by omega) dL_law_630 ?_
  refine zl_bool hx dL_law_631 dL_law_634 dL_law_635 dL_law_638 ?_
  refine zl_aload_n hx 3 dL_law_639 rfl rfl ?_
  refine zl_iload_n hx 0 dL_law_640 rfl rfl ?_
  refine zl_iconst hx (v := nI 2) dL_law_641 (by decide +kernel) ?_
  refine zl_iadd_n hx dL_law_642 ?_
  refine zl_sld hx hX hbl hs0 hL (k := i + 2) (by omega) dL_law_643 ?_
  refine zl_bool hx dL_law_644 dL_law_647 dL_law_648 dL_law_651 ?_
  refine zl_callV hx hA zRc (As := [.int (zdr (!decide (xs (i + 1) = 0))), .int (zdr (!decide (xs (i + 2) = 0)))]) (st := []) (k_X5_total hI M hc zThy (!decide (xs (i + 1) = 0)) (!decide (xs (i + 2) = 0))) zw_430 zy_X5_total ⟨rfl, rfl⟩ (by decide) (zOB_X5 E) rfl rfl rfl rfl (Nat.le_of_ble_eq_true rfl) dL_law_652 ?_
  rintro _ M1 ⟨v1, rfl, q1⟩
  obtain ⟨rfl, hc1, hf1⟩ := q1
  have hm1 := zMs_fC hm hf1
  show zL E s0 x 655 _ _ _
  refine zl_aload_n hx 1 dL_law_655 rfl rfl ?_
  refine zl_aload_n hx 3 dL_law_656 rfl rfl ?_
  refine zl_iload_n hx 0 dL_law_657 rfl rfl ?_
  refine zl_iconst hx (v := nI 1) dL_law_658 (by decide +kernel) ?_
  refine zl_iadd_n hx dL_law_659 ?_
  refine zl_sld hx hX hbl hs0 hL (k := i + 1) (by omega) dL_law_660 ?_
  refine zl_bool hx dL_law_661 dL_law_664 dL_law_665 dL_law_668 ?_
  refine zl_aload_n hx 3 dL_law_669 rfl rfl ?_
  refine zl_iload_n hx 0 dL_law_670 rfl rfl ?_
  refine zl_iconst hx (v := nI 2) dL_law_671 (by decide +kernel) ?_
  refine zl_iadd_n hx dL_law_672 ?_
  refine zl_sld hx hX hbl hs0 hL (k := i + 2) (by omega) dL_law_673 ?_
  refine zl_bool hx dL_law_674 dL_law_677 dL_law_678 dL_law_681 ?_
  refine zl_callV hx hA zRc (As := [.int (zdr (!decide (xs (i + 1) = 0))), .int (zdr (!decide (xs (i + 2) = 0)))]) (st := [_]) (k_X6_total hI M1 hm1 hk (!decide (xs (i + 1) = 0)) (!decide (xs (i + 2) = 0))) zw_821 zy_X6_total ⟨rfl, rfl⟩ (by decide) (zOB_X6 E) rfl rfl rfl rfl (Nat.le_of_ble_eq_true rfl) dL_law_682 ?_
  rintro _ M2 ⟨v2, rfl, q2⟩
  show zL E s0 x 685 _ _ _
  obtain ⟨rfl, hm2, hf2⟩ := q2
  have fin := nxt M2 _ (zCs_fN hc1 hf2) hm2 h9
  refine zl_lcmp hx dL_law_685 ?_
  exact zl_if_eq (tgt := 1322) hx dL_law_686 (by decide) (fun _ => fin) (fun h => absurd ((lg_cmp_eq _ _).mpr rfl) h)
set_option maxHeartbeats 4000000 in
set_option maxRecDepth 100000 in
theorem zcase_16 {E : zE} {s0 : Nat} {x : zX} {b L i : Nat} {xs : Nat → Int32} {M : zM} {σ : zSt} (hI : zI E) (hw : zLw E s0 x b L xs) (hc : zCs M σ) (hm : zMs M σ) (h9 : z99 σ) (hi : i + 4 ≤ L) (nxt : ∀ (M2 : zM) (σ2 : zSt), zCs M2 σ2 → zMs M2 σ2 → z99 σ2 → zL E s0 x 1322 (zlv E b i) [] M2) : zL E s0 x 691 (zlv E b i) [] M := by
  obtain ⟨hx, hX, hbl, hs0, hL, hA, hZ⟩ := hw
  have hk := zCs_sk hc
  refine zl_aload_n hx 2 dL_law_691 rfl rfl ?_
  refine zl_aload_n hx 3 dL_law_692 rfl rfl ?_
  refine zl_iload_n hx 0 dL_law_693 rfl rfl ?_
  refine zl_iconst hx (v := nI 1) dL_law_694 (by decide +kernel) ?_
  refine zl_iadd_n hx dL_law_695 ?_
  refine zl_sld hx hX hbl hs0 hL (k := i + 1) (by omega) dL_law_696 ?_
  refine zl_aload_n hx 3 dL_law_697 rfl rfl ?_
  refine zl_iload_n hx 0 dL_law_698 rfl rfl ?_
  refine zl_iconst hx (v := nI 2) dL_law_699 (by decide +kernel) ?_
  refine zl_iadd_n hx dL_law_700 ?_
  refine zl_sld hx hX hbl hs0 hL (k := i + 2) (by omega) dL_law_701 ?_
  refine zl_bool hx dL_law_702 dL_law_705 dL_law_706 dL_law_709 ?_
  refine zl_aload_n hx 3 dL_law_710 rfl rfl ?_
  refine zl_iload_n hx 0 dL_law_711 rfl rfl ?_
  refine zl_iconst hx (v := nI 3) dL_law_712 (by decide +kernel) ?_
  refine zl_iadd_n hx dL_law_713 ?_
  refine zl_sld hx hX hbl hs0 hL (k := i + 3) (by omega) dL_law_714 ?_
  refine zl_bool hx dL_law_715 dL_law_718 dL_law_719 dL_law_722 ?_
  refine zl_callV hx hA zRc (As := [.int (xs (i + 1)), .int (zdr (!decide (xs (i + 2) = 0))), .int (zdr (!decide (xs (i + 3) = 0)))]) (st := []) (k_X5_rest hI M hc zThy (xs (i + 1)) (!decide (xs (i + 2) = 0)) (!decide (xs (i + 3) = 0))) zw_439 zy_X5_rest ⟨rfl, rfl⟩ (by decide) (zOB_X5 E) rfl rfl rfl rfl (Nat.le_of_ble_eq_true rfl) dL_law_723 ?_
  rintro _ M1 ⟨v1, rfl, q1⟩
  obtain ⟨rfl, hc1, hf1⟩ := q1
  have hm1 := zMs_fC hm hf1
  show zL E s0 x 726 _ _ _
  refine zl_aload_n hx 1 dL_law_726 rfl rfl ?_
  refine zl_aload_n hx 3 dL_law_727 rfl rfl ?_
  refine zl_iload_n hx 0 dL_law_728 rfl rfl ?_
  refine zl_iconst hx (v := nI 1) dL_law_729 (by decide +kernel) ?_
  refine zl_iadd_n hx dL_law_730 ?_
  refine zl_sld hx hX hbl hs0 hL (k := i + 1) (by omega) dL_law_731 ?_
  refine zl_aload_n hx 3 dL_law_732 rfl rfl ?_
  refine zl_iload_n hx 0 dL_law_733 rfl rfl ?_
  refine zl_iconst hx (v := nI 2) dL_law_734 (by decide +kernel) ?_
  refine zl_iadd_n hx dL_law_735 ?_
  refine zl_sld hx hX hbl hs0 hL (k := i + 2) (by omega) dL_law_736 ?_
  refine zl_bool hx dL_law_737 dL_law_740 dL_law_741 dL_law_744 ?_
  refine zl_aload_n hx 3 dL_law_745 rfl rfl ?_
  refine zl_iload_n hx 0 dL_law_746 rfl rfl ?_
  refine zl_iconst hx (v := nI 3) dL_law_747 (by decide +kernel) ?_
  refine zl_iadd_n hx dL_law_748 ?_
  refine zl_sld hx hX hbl hs0 hL (k := i + 3) (by omega) dL_law_749 ?_
  refine zl_bool hx dL_law_750 dL_law_753 dL_law_754 dL_law_757 ?_
  refine zl_callV hx hA zRc (As := [.int (xs (i + 1)), .int (zdr (!decide (xs (i + 2) = 0))), .int (zdr (!decide (xs (i + 3) = 0)))]) (st := [_]) (k_X6_rest hI M1 hm1 hk (xs (i + 1)) (!decide (xs (i + 2) = 0)) (!decide (xs (i + 3) = 0))) zw_829 zy_X6_rest ⟨rfl, rfl⟩ (by decide) (zOB_X6 E) rfl rfl rfl rfl (Nat.le_of_ble_eq_true rfl) dL_law_758 ?_
  rintro _ M2 ⟨v2, rfl, q2⟩
  show zL E s0 x 761 _ _ _
  obtain ⟨rfl, hm2, hf2⟩ := q2
  have fin := nxt M2 _ (zCs_fN hc1 hf2) hm2 h9
  refine zl_lcmp hx dL_law_761 ?_
  exact zl_if_eq (tgt := 1322) hx dL_law_762 (by decide) (fun _ => fin) (fun h => absurd ((lg_cmp_eq _ _).mpr rfl) h)
set_option maxHeartbeats 4000000 in
set_option maxRecDepth 100000 in
theorem zcase_17 {E : zE} {s0 : Nat} {x : zX} {b L i : Nat} {xs : Nat → Int32} {M : zM} {σ : zSt} (hI : zI E) (hw : zLw E s0 x b L xs) (hc : zCs M σ) (hm : zMs M σ) (h9 : z99 σ) (hi : i + 4 ≤ L) (nxt : ∀ (M2 : zM) (σ2 : zSt), zCs M2 σ2 → zMs M2 σ2 → z99 σ2 → zL E s0 x 1322 (zlv E b i) [] M2) : zL E s0 x 767 (zlv E b i) [] M := by
  obtain ⟨hx, hX, hbl, hs0, hL, hA, hZ⟩ := hw
  have hk := zCs_sk hc
  refine zl_aload_n hx 2 dL_law_767 rfl rfl ?_
  refine zl_aload_n hx 3 dL_law_768 rfl rfl ?_
  refine zl_iload_n hx 0 dL_law_769 rfl rfl ?_
  refine zl_iconst hx (v := nI 1) dL_law_770 (by decide +kernel) ?_
  refine zl_iadd_n hx dL_law_771 ?_
  refine zl_sld hx hX hbl hs0 hL (k := i + 1) (by omega) dL_law_772 ?_
  refine zl_bool hx dL_law_773 dL_law_776 dL_law_777 dL_law_780 ?_
  refine zl_aload_n hx 3 dL_law_781 rfl rfl ?_
  refine zl_iload_n hx 0 dL_law_782 rfl rfl ?_
  refine zl_iconst hx (v := nI 2) dL_law_783 (by decide +kernel) ?_
  refine zl_iadd_n hx dL_law_784 ?_
  refine zl_sld hx hX hbl hs0 hL (k := i + 2) (by omega) dL_law_785 ?_
  refine zl_bool hx dL_law_786 dL_law_789 dL_law_790 dL_law_793 ?_
  refine zl_callV hx hA zRc (As := [.int (zdr (!decide (xs (i + 1) = 0))), .int (zdr (!decide (xs (i + 2) = 0)))]) (st := []) (k_X5_squares hI M hc zThy (!decide (xs (i + 1) = 0)) (!decide (xs (i + 2) = 0))) zw_448 zy_X5_squares ⟨rfl, rfl⟩ (by decide) (zOB_X5 E) rfl rfl rfl rfl (Nat.le_of_ble_eq_true rfl) dL_law_794 ?_
  rintro _ M1 ⟨v1, rfl, q1⟩
  obtain ⟨rfl, hc1, hf1⟩ := q1
  have hm1 := zMs_fC hm hf1
  show zL E s0 x 797 _ _ _
  refine zl_aload_n hx 1 dL_law_797 rfl rfl ?_
  refine zl_aload_n hx 3 dL_law_798 rfl rfl ?_
  refine zl_iload_n hx 0 dL_law_799 rfl rfl ?_
  refine zl_iconst hx (v := nI 1) dL_law_800 (by decide +kernel) ?_
  refine zl_iadd_n hx dL_law_801 ?_
  refine zl_sld hx hX hbl hs0 hL (k := i + 1) (by omega) dL_law_802 ?_
  refine zl_bool hx dL_law_803 dL_law_806 dL_law_807 dL_law_810 ?_
  refine zl_aload_n hx 3 dL_law_811 rfl rfl ?_
  refine zl_iload_n hx 0 dL_law_812 rfl rfl ?_
  refine zl_iconst hx (v := nI 2) dL_law_813 (by decide +kernel) ?_
  refine zl_iadd_n hx dL_law_814 ?_
  refine zl_sld hx hX hbl hs0 hL (k := i + 2) (by omega) dL_law_815 ?_
  refine zl_bool hx dL_law_816 dL_law_819 dL_law_820 dL_law_823 ?_
  refine zl_callV hx hA zRc (As := [.int (zdr (!decide (xs (i + 1) = 0))), .int (zdr (!decide (xs (i + 2) = 0)))]) (st := [_]) (k_X6_squares hI M1 hm1 hk (!decide (xs (i + 1) = 0)) (!decide (xs (i + 2) = 0))) zw_833 zy_X6_squares ⟨rfl, rfl⟩ (by decide) (zOB_X6 E) rfl rfl rfl rfl (Nat.le_of_ble_eq_true rfl) dL_law_824 ?_
  rintro _ M2 ⟨v2, rfl, q2⟩
  show zL E s0 x 827 _ _ _
  obtain ⟨rfl, hm2, hf2⟩ := q2
  have fin := nxt M2 _ (zCs_fN hc1 hf2) hm2 h9
  refine zl_lcmp hx dL_law_827 ?_
  exact zl_if_eq (tgt := 1322) hx dL_law_828 (by decide) (fun _ => fin) (fun h => absurd ((lg_cmp_eq _ _).mpr rfl) h)
set_option maxHeartbeats 4000000 in
set_option maxRecDepth 100000 in
theorem zcase_18 {E : zE} {s0 : Nat} {x : zX} {b L i : Nat} {xs : Nat → Int32} {M : zM} {σ : zSt} (hI : zI E) (hw : zLw E s0 x b L xs) (hc : zCs M σ) (hm : zMs M σ) (h9 : z99 σ) (hi : i + 4 ≤ L) (nxt : ∀ (M2 : zM) (σ2 : zSt), zCs M2 σ2 → zMs M2 σ2 → z99 σ2 → zL E s0 x 1322 (zlv E b i) [] M2) : zL E s0 x 833 (zlv E b i) [] M := by
  obtain ⟨hx, hX, hbl, hs0, hL, hA, hZ⟩ := hw
  have hk := zCs_sk hc
  refine zl_aload_n hx 2 dL_law_833 rfl rfl ?_
  refine zl_aload_n hx 3 dL_law_834 rfl rfl ?_
  refine zl_iload_n hx 0 dL_law_835 rfl rfl ?_
  refine zl_iconst hx (v := nI 1) dL_law_836 (by decide +kernel) ?_
  refine zl_iadd_n hx dL_law_837 ?_
  refine zl_sld hx hX hbl hs0 hL (k := i + 1) (by omega) dL_law_838 ?_
  refine zl_bool hx dL_law_839 dL_law_842 dL_law_843 dL_law_846 ?_
  refine zl_callV hx hA zRc (As := [.int (zdr (!decide (xs (i + 1) = 0)))]) (st := []) (k_X5_next hI M hc zThy (!decide (xs (i + 1) = 0))) zw_456 zy_X5_next ⟨rfl, rfl⟩ (by decide) (zOB_X5 E) rfl rfl rfl rfl (Nat.le_of_ble_eq_true rfl) dL_law_847 ?_
  rintro _ M1 ⟨v1, rfl, q1⟩
  obtain ⟨rfl, hc1, hf1⟩ := q1
  have hm1 := zMs_fC hm hf1
  show zL E s0 x 850 _ _ _
  refine zl_aload_n hx 1 dL_law_850 rfl rfl ?_
  refine zl_aload_n hx 3 dL_law_851 rfl rfl ?_
  refine zl_iload_n hx 0 dL_law_852 rfl rfl ?_
  refine zl_iconst hx (v := nI 1) dL_law_853 (by decide +kernel) ?_
  refine zl_iadd_n hx dL_law_854 ?_
  refine zl_sld hx hX hbl hs0 hL (k := i + 1) (by omega) dL_law_855 ?_
  refine zl_bool hx dL_law_856 dL_law_859 dL_law_860 dL_law_863 ?_
  refine zl_callV hx hA zRc (As := [.int (zdr (!decide (xs (i + 1) = 0)))]) (st := [_]) (k_X6_next hI M1 hm1 hk (!decide (xs (i + 1) = 0))) zw_841 zy_X6_next ⟨rfl, rfl⟩ (by decide) (zOB_X6 E) rfl rfl rfl rfl (Nat.le_of_ble_eq_true rfl) dL_law_864 ?_
  rintro _ M2 ⟨v2, rfl, q2⟩
  show zL E s0 x 867 _ _ _
  obtain ⟨rfl, hm2, hf2⟩ := q2
  have fin := nxt M2 _ (zCs_fN hc1 hf2) hm2 h9
  exact zl_icmp_eq (tgt := 1322) hx dL_law_867 (by decide) (fun _ => fin) (fun h => absurd rfl h)
set_option maxHeartbeats 4000000 in
set_option maxRecDepth 100000 in
theorem zcase_19 {E : zE} {s0 : Nat} {x : zX} {b L i : Nat} {xs : Nat → Int32} {M : zM} {σ : zSt} (hI : zI E) (hw : zLw E s0 x b L xs) (hc : zCs M σ) (hm : zMs M σ) (h9 : z99 σ) (hi : i + 4 ≤ L) (nxt : ∀ (M2 : zM) (σ2 : zSt), zCs M2 σ2 → zMs M2 σ2 → z99 σ2 → zL E s0 x 1322 (zlv E b i) [] M2) : zL E s0 x 872 (zlv E b i) [] M := by
  obtain ⟨hx, hX, hbl, hs0, hL, hA, hZ⟩ := hw
  have hk := zCs_sk hc
  refine zl_aload_n hx 2 dL_law_872 rfl rfl ?_
  refine zl_callV hx hA zRc (As := []) (st := []) (k_X5_better hI M hc zThy ) zw_475 zy_X5_better ⟨rfl, rfl⟩ (by decide) (zOB_X5 E) rfl rfl rfl rfl (Nat.le_of_ble_eq_true rfl) dL_law_873 ?_
  rintro _ M1 ⟨v1, rfl, q1⟩
  obtain ⟨rfl, hc1, hf1⟩ := q1
  have hm1 := zMs_fC hm hf1
  show zL E s0 x 876 _ _ _
  refine zl_aload_n hx 1 dL_law_876 rfl rfl ?_
  refine zl_callV hx hA zRc (As := []) (st := [_]) (k_X6_better hI M1 hm1 hk ) zw_845 zy_X6_better ⟨rfl, rfl⟩ (by decide) (zOB_X6 E) rfl rfl rfl rfl (Nat.le_of_ble_eq_true rfl) dL_law_877 ?_
  rintro _ M2 ⟨v2, rfl, q2⟩
  show zL E s0 x 880 _ _ _
  obtain ⟨rfl, hm2, hf2⟩ := q2
  have fin := nxt M2 _ (zCs_fN hc1 hf2) hm2 h9
  exact zl_icmp_eq (tgt := 1322) hx dL_law_880 (by decide) (fun _ => fin) (fun h => absurd rfl h)
set_option maxHeartbeats 4000000 in
set_option maxRecDepth 100000 in
theorem zcase_20 {E : zE} {s0 : Nat} {x : zX} {b L i : Nat} {xs : Nat → Int32} {M : zM} {σ : zSt} (hI : zI E) (hw : zLw E s0 x b L xs) (hc : zCs M σ) (hm : zMs M σ) (h9 : z99 σ) (hi : i + 4 ≤ L) (nxt : ∀ (M2 : zM) (σ2 : zSt), zCs M2 σ2 → zMs M2 σ2 → z99 σ2 → zL E s0 x 1322 (zlv E b i) [] M2) : zL E s0 x 885 (zlv E b i) [] M := by
  obtain ⟨hx, hX, hbl, hs0, hL, hA, hZ⟩ := hw
  have hk := zCs_sk hc
  refine zl_aload_n hx 2 dL_law_885 rfl rfl ?_
  refine zl_aload_n hx 3 dL_law_886 rfl rfl ?_
  refine zl_iload_n hx 0 dL_law_887 rfl rfl ?_
  refine zl_iconst hx (v := nI 1) dL_law_888 (by decide +kernel) ?_
  refine zl_iadd_n hx dL_law_889 ?_
  refine zl_sld hx hX hbl hs0 hL (k := i + 1) (by omega) dL_law_890 ?_
  refine zl_bool hx dL_law_891 dL_law_894 dL_law_895 dL_law_898 ?_
  refine zl_callV hx hA zRc (As := [.int (zdr (!decide (xs (i + 1) = 0)))]) (st := []) (k_X5_doubtful hI M hc zThy (!decide (xs (i + 1) = 0))) zw_479 zy_X5_doubtful ⟨rfl, rfl⟩ (by decide) (zOB_X5 E) rfl rfl rfl rfl (Nat.le_of_ble_eq_true rfl) dL_law_899 ?_
  rintro _ M1 ⟨v1, rfl, q1⟩
  obtain ⟨rfl, hc1, hf1⟩ := q1
  have hm1 := zMs_fC hm hf1
  show zL E s0 x 902 _ _ _
  refine zl_aload_n hx 1 dL_law_902 rfl rfl ?_
  refine zl_aload_n hx 3 dL_law_903 rfl rfl ?_
  refine zl_iload_n hx 0 dL_law_904 rfl rfl ?_
  refine zl_iconst hx (v := nI 1) dL_law_905 (by decide +kernel) ?_
  refine zl_iadd_n hx dL_law_906 ?_
  refine zl_sld hx hX hbl hs0 hL (k := i + 1) (by omega) dL_law_907 ?_
  refine zl_bool hx dL_law_908 dL_law_911 dL_law_912 dL_law_915 ?_
  refine zl_callV hx hA zRc (As := [.int (zdr (!decide (xs (i + 1) = 0)))]) (st := [_]) (k_X6_doubtful hI M1 hm1 hk (!decide (xs (i + 1) = 0))) zw_849 zy_X6_doubtful ⟨rfl, rfl⟩ (by decide) (zOB_X6 E) rfl rfl rfl rfl (Nat.le_of_ble_eq_true rfl) dL_law_916 ?_
  rintro _ M2 ⟨v2, rfl, q2⟩
  show zL E s0 x 919 _ _ _
  obtain ⟨rfl, hm2, hf2⟩ := q2
  have fin := nxt M2 _ (zCs_fN hc1 hf2) hm2 h9
  exact zl_icmp_eq (tgt := 1322) hx dL_law_919 (by decide) (fun _ => fin) (fun h => absurd rfl h)
set_option maxHeartbeats 4000000 in
set_option maxRecDepth 100000 in
theorem zcase_21 {E : zE} {s0 : Nat} {x : zX} {b L i : Nat} {xs : Nat → Int32} {M : zM} {σ : zSt} (hI : zI E) (hw : zLw E s0 x b L xs) (hc : zCs M σ) (hm : zMs M σ) (h9 : z99 σ) (hi : i + 4 ≤ L) (nxt : ∀ (M2 : zM) (σ2 : zSt), zCs M2 σ2 → zMs M2 σ2 → z99 σ2 → zL E s0 x 1322 (zlv E b i) [] M2) : zL E s0 x 924 (zlv E b i) [] M := by
  obtain ⟨hx, hX, hbl, hs0, hL, hA, hZ⟩ := hw
  have hk := zCs_sk hc
  refine zl_aload_n hx 2 dL_law_924 rfl rfl ?_
  refine zl_aload_n hx 3 dL_law_925 rfl rfl ?_
  refine zl_iload_n hx 0 dL_law_926 rfl rfl ?_
  refine zl_iconst hx (v := nI 1) dL_law_927 (by decide +kernel) ?_
  refine zl_iadd_n hx dL_law_928 ?_
  refine zl_sld hx hX hbl hs0 hL (k := i + 1) (by omega) dL_law_929 ?_
  refine zl_bool hx dL_law_930 dL_law_933 dL_law_934 dL_law_937 ?_
  refine zl_callV hx hA zRc (As := [.int (zdr (!decide (xs (i + 1) = 0)))]) (st := []) (k_X5_wrong hI M hc zThy (!decide (xs (i + 1) = 0))) zw_493 zy_X5_wrong ⟨rfl, rfl⟩ (by decide) (zOB_X5 E) rfl rfl rfl rfl (Nat.le_of_ble_eq_true rfl) dL_law_938 ?_
  rintro _ M1 ⟨v1, rfl, q1⟩
  obtain ⟨rfl, hc1, hf1⟩ := q1
  have hm1 := zMs_fC hm hf1
  show zL E s0 x 941 _ _ _
  refine zl_aload_n hx 1 dL_law_941 rfl rfl ?_
  refine zl_aload_n hx 3 dL_law_942 rfl rfl ?_
  refine zl_iload_n hx 0 dL_law_943 rfl rfl ?_
  refine zl_iconst hx (v := nI 1) dL_law_944 (by decide +kernel) ?_
  refine zl_iadd_n hx dL_law_945 ?_
  refine zl_sld hx hX hbl hs0 hL (k := i + 1) (by omega) dL_law_946 ?_
  refine zl_bool hx dL_law_947 dL_law_950 dL_law_951 dL_law_954 ?_
  refine zl_callV hx hA zRc (As := [.int (zdr (!decide (xs (i + 1) = 0)))]) (st := [_]) (k_X6_wrong hI M1 hm1 hk (!decide (xs (i + 1) = 0))) zw_857 zy_X6_wrong ⟨rfl, rfl⟩ (by decide) (zOB_X6 E) rfl rfl rfl rfl (Nat.le_of_ble_eq_true rfl) dL_law_955 ?_
  rintro _ M2 ⟨v2, rfl, q2⟩
  show zL E s0 x 958 _ _ _
  obtain ⟨rfl, hm2, hf2⟩ := q2
  have fin := nxt M2 _ (zCs_fN hc1 hf2) hm2 h9
  exact zl_icmp_eq (tgt := 1322) hx dL_law_958 (by decide) (fun _ => fin) (fun h => absurd rfl h)
set_option maxHeartbeats 4000000 in
set_option maxRecDepth 100000 in
theorem zcase_22 {E : zE} {s0 : Nat} {x : zX} {b L i : Nat} {xs : Nat → Int32} {M : zM} {σ : zSt} (hI : zI E) (hw : zLw E s0 x b L xs) (hc : zCs M σ) (hm : zMs M σ) (h9 : z99 σ) (hi : i + 4 ≤ L) (nxt : ∀ (M2 : zM) (σ2 : zSt), zCs M2 σ2 → zMs M2 σ2 → z99 σ2 → zL E s0 x 1322 (zlv E b i) [] M2) : zL E s0 x 963 (zlv E b i) [] M := by
  obtain ⟨hx, hX, hbl, hs0, hL, hA, hZ⟩ := hw
  have hk := zCs_sk hc
  refine zl_aload_n hx 2 dL_law_963 rfl rfl ?_
  refine zl_aload_n hx 3 dL_law_964 rfl rfl ?_
  refine zl_iload_n hx 0 dL_law_965 rfl rfl ?_
  refine zl_iconst hx (v := nI 1) dL_law_966 (by decide +kernel) ?_
  refine zl_iadd_n hx dL_law_967 ?_
  refine zl_sld hx hX hbl hs0 hL (k := i + 1) (by omega) dL_law_968 ?_
  refine zl_aload_n hx 3 dL_law_969 rfl rfl ?_
  refine zl_iload_n hx 0 dL_law_970 rfl rfl ?_
  refine zl_iconst hx (v := nI 2) dL_law_971 (by decide +kernel) ?_
  refine zl_iadd_n hx dL_law_972 ?_
  refine zl_sld hx hX hbl hs0 hL (k := i + 2) (by omega) dL_law_973 ?_
  refine zl_i2l hx dL_law_974 ?_
  refine zl_bipush hx (v := nI 32) dL_law_975 (by decide +kernel) ?_
  refine zl_lshl hx dL_law_977 ?_
  refine zl_aload_n hx 3 dL_law_978 rfl rfl ?_
  refine zl_iload_n hx 0 dL_law_979 rfl rfl ?_
  refine zl_iconst hx (v := nI 3) dL_law_980 (by decide +kernel) ?_
  refine zl_iadd_n hx dL_law_981 ?_
  refine zl_sld hx hX hbl hs0 hL (k := i + 3) (by omega) dL_law_982 ?_
  refine zl_i2l hx dL_law_983 ?_
  refine zl_ldc2 hx zw_913 dL_law_984 ?_
  refine zl_land hx dL_law_987 ?_
  refine zl_lor hx dL_law_988 ?_
  refine zl_callV hx hA zRc (As := [.int (xs (i + 1)), .long ((((xs (i + 2)).toInt64) <<< ((nI 32).toInt64 &&& 63)) ||| (((xs (i + 3)).toInt64) &&& (4294967295)))]) (st := []) (k_X5_judge hI M hc zThy (xs (i + 1)) ((((xs (i + 2)).toInt64) <<< ((nI 32).toInt64 &&& 63)) ||| (((xs (i + 3)).toInt64) &&& (4294967295)))) zw_501 zy_X5_judge ⟨rfl, rfl⟩ (by decide) (zOB_X5 E) rfl rfl rfl rfl (Nat.le_of_ble_eq_true rfl) dL_law_989 ?_
  rintro _ M1 ⟨v1, rfl, q1⟩
  obtain ⟨rfl, hc1, hf1⟩ := q1
  have hm1 := zMs_fC hm hf1
  show zL E s0 x 992 _ _ _
  refine zl_aload_n hx 1 dL_law_992 rfl rfl ?_
  refine zl_aload_n hx 3 dL_law_993 rfl rfl ?_
  refine zl_iload_n hx 0 dL_law_994 rfl rfl ?_
  refine zl_iconst hx (v := nI 1) dL_law_995 (by decide +kernel) ?_
  refine zl_iadd_n hx dL_law_996 ?_
  refine zl_sld hx hX hbl hs0 hL (k := i + 1) (by omega) dL_law_997 ?_
  refine zl_aload_n hx 3 dL_law_998 rfl rfl ?_
  refine zl_iload_n hx 0 dL_law_999 rfl rfl ?_
  refine zl_iconst hx (v := nI 2) dL_law_1000 (by decide +kernel) ?_
  refine zl_iadd_n hx dL_law_1001 ?_
  refine zl_sld hx hX hbl hs0 hL (k := i + 2) (by omega) dL_law_1002 ?_
  refine zl_i2l hx dL_law_1003 ?_
  refine zl_bipush hx (v := nI 32) dL_law_1004 (by decide +kernel) ?_
  refine zl_lshl hx dL_law_1006 ?_
  refine zl_aload_n hx 3 dL_law_1007 rfl rfl ?_
  refine zl_iload_n hx 0 dL_law_1008 rfl rfl ?_
  refine zl_iconst hx (v := nI 3) dL_law_1009 (by decide +kernel) ?_
  refine zl_iadd_n hx dL_law_1010 ?_
  refine zl_sld hx hX hbl hs0 hL (k := i + 3) (by omega) dL_law_1011 ?_
  refine zl_i2l hx dL_law_1012 ?_
  refine zl_ldc2 hx zw_913 dL_law_1013 ?_
  refine zl_land hx dL_law_1016 ?_
  refine zl_lor hx dL_law_1017 ?_
  refine zl_callV hx hA zRc (As := [.int (xs (i + 1)), .long ((((xs (i + 2)).toInt64) <<< ((nI 32).toInt64 &&& 63)) ||| (((xs (i + 3)).toInt64) &&& (4294967295)))]) (st := [_]) (k_X6_judge hI M1 hm1 hk (xs (i + 1)) ((((xs (i + 2)).toInt64) <<< ((nI 32).toInt64 &&& 63)) ||| (((xs (i + 3)).toInt64) &&& (4294967295)))) zw_861 zy_X6_judge ⟨rfl, rfl⟩ (by decide) (zOB_X6 E) rfl rfl rfl rfl (Nat.le_of_ble_eq_true rfl) dL_law_1018 ?_
  rintro _ M2 ⟨v2, rfl, q2⟩
  show zL E s0 x 1021 _ _ _
  obtain ⟨rfl, hm2, hf2⟩ := q2
  have fin := nxt M2 _ (zCs_fN hc1 hf2) hm2 h9
  exact zl_icmp_eq (tgt := 1322) hx dL_law_1021 (by decide) (fun _ => fin) (fun h => absurd rfl h)
set_option maxHeartbeats 4000000 in
set_option maxRecDepth 100000 in
theorem zcase_23 {E : zE} {s0 : Nat} {x : zX} {b L i : Nat} {xs : Nat → Int32} {M : zM} {σ : zSt} (hI : zI E) (hw : zLw E s0 x b L xs) (hc : zCs M σ) (hm : zMs M σ) (h9 : z99 σ) (hi : i + 4 ≤ L) (nxt : ∀ (M2 : zM) (σ2 : zSt), zCs M2 σ2 → zMs M2 σ2 → z99 σ2 → zL E s0 x 1322 (zlv E b i) [] M2) : zL E s0 x 1026 (zlv E b i) [] M := by
  obtain ⟨hx, hX, hbl, hs0, hL, hA, hZ⟩ := hw
  have hk := zCs_sk hc
  refine zl_aload_n hx 2 dL_law_1026 rfl rfl ?_
  refine zl_aload_n hx 3 dL_law_1027 rfl rfl ?_
  refine zl_iload_n hx 0 dL_law_1028 rfl rfl ?_
  refine zl_iconst hx (v := nI 1) dL_law_1029 (by decide +kernel) ?_
  refine zl_iadd_n hx dL_law_1030 ?_
  refine zl_sld hx hX hbl hs0 hL (k := i + 1) (by omega) dL_law_1031 ?_
  refine zl_aload_n hx 3 dL_law_1032 rfl rfl ?_
  refine zl_iload_n hx 0 dL_law_1033 rfl rfl ?_
  refine zl_iconst hx (v := nI 2) dL_law_1034 (by decide +kernel) ?_
  refine zl_iadd_n hx dL_law_1035 ?_
  refine zl_sld hx hX hbl hs0 hL (k := i + 2) (by omega) dL_law_1036 ?_
  refine zl_bool hx dL_law_1037 dL_law_1040 dL_law_1041 dL_law_1044 ?_
  refine zl_aload_n hx 3 dL_law_1045 rfl rfl ?_
  refine zl_iload_n hx 0 dL_law_1046 rfl rfl ?_
  refine zl_iconst hx (v := nI 3) dL_law_1047 (by decide +kernel) ?_
  refine zl_iadd_n hx dL_law_1048 ?_
  refine zl_sld hx hX hbl hs0 hL (k := i + 3) (by omega) dL_law_1049 ?_
  refine zl_bool hx dL_law_1050 dL_law_1053 dL_law_1054 dL_law_1057 ?_
  refine zl_callVs hx hZ hs0 hA zRc (As := [.int (xs (i + 1)), .int (zdr (!decide (xs (i + 2) = 0))), .int (zdr (!decide (xs (i + 3) = 0)))]) (st := []) (k_X5_share hI M hc (xs (i + 1)) (!decide (xs (i + 2) = 0)) (!decide (xs (i + 3) = 0))) zw_522 zy_X5_share ⟨rfl, rfl⟩ (by decide) (zOB_X5 E) rfl rfl rfl rfl (Nat.le_of_ble_eq_true rfl) dL_law_1058 ?_
  rintro _ M1 ⟨v1, rfl, q1⟩
  obtain ⟨rfl, hc1, hf1⟩ := q1
  have hm1 := zMs_fC hm hf1
  show zL E s0 x 1061 _ _ _
  refine zl_aload_n hx 1 dL_law_1061 rfl rfl ?_
  refine zl_aload_n hx 3 dL_law_1062 rfl rfl ?_
  refine zl_iload_n hx 0 dL_law_1063 rfl rfl ?_
  refine zl_iconst hx (v := nI 1) dL_law_1064 (by decide +kernel) ?_
  refine zl_iadd_n hx dL_law_1065 ?_
  refine zl_sld hx hX hbl hs0 hL (k := i + 1) (by omega) dL_law_1066 ?_
  refine zl_aload_n hx 3 dL_law_1067 rfl rfl ?_
  refine zl_iload_n hx 0 dL_law_1068 rfl rfl ?_
  refine zl_iconst hx (v := nI 2) dL_law_1069 (by decide +kernel) ?_
  refine zl_iadd_n hx dL_law_1070 ?_
  refine zl_sld hx hX hbl hs0 hL (k := i + 2) (by omega) dL_law_1071 ?_
  refine zl_bool hx dL_law_1072 dL_law_1075 dL_law_1076 dL_law_1079 ?_
  refine zl_aload_n hx 3 dL_law_1080 rfl rfl ?_
  refine zl_iload_n hx 0 dL_law_1081 rfl rfl ?_
  refine zl_iconst hx (v := nI 3) dL_law_1082 (by decide +kernel) ?_
  refine zl_iadd_n hx dL_law_1083 ?_
  refine zl_sld hx hX hbl hs0 hL (k := i + 3) (by omega) dL_law_1084 ?_
  refine zl_bool hx dL_law_1085 dL_law_1088 dL_law_1089 dL_law_1092 ?_
  refine zl_callV hx hA zRc (As := [.int (xs (i + 1)), .int (zdr (!decide (xs (i + 2) = 0))), .int (zdr (!decide (xs (i + 3) = 0)))]) (st := [_]) (k_X6_share hI M1 hm1 hk (xs (i + 1)) (!decide (xs (i + 2) = 0)) (!decide (xs (i + 3) = 0))) zw_878 zy_X6_share ⟨rfl, rfl⟩ (by decide) (zOB_X6 E) rfl rfl rfl rfl (Nat.le_of_ble_eq_true rfl) dL_law_1093 ?_
  rintro _ M2 ⟨v2, rfl, q2⟩
  show zL E s0 x 1096 _ _ _
  obtain ⟨rfl, hm2, hf2⟩ := q2
  have fin := nxt M2 _ (zCs_fN hc1 hf2) hm2 h9
  exact zl_icmp_eq (tgt := 1322) hx dL_law_1096 (by decide) (fun _ => fin) (fun h => absurd rfl h)
set_option maxHeartbeats 4000000 in
set_option maxRecDepth 100000 in
theorem zcase_24 {E : zE} {s0 : Nat} {x : zX} {b L i : Nat} {xs : Nat → Int32} {M : zM} {σ : zSt} (hI : zI E) (hw : zLw E s0 x b L xs) (hc : zCs M σ) (hm : zMs M σ) (h9 : z99 σ) (hi : i + 4 ≤ L) (nxt : ∀ (M2 : zM) (σ2 : zSt), zCs M2 σ2 → zMs M2 σ2 → z99 σ2 → zL E s0 x 1322 (zlv E b i) [] M2) : zL E s0 x 1101 (zlv E b i) [] M := by
  obtain ⟨hx, hX, hbl, hs0, hL, hA, hZ⟩ := hw
  have hk := zCs_sk hc
  refine zl_aload_n hx 2 dL_law_1101 rfl rfl ?_
  refine zl_aload_n hx 3 dL_law_1102 rfl rfl ?_
  refine zl_iload_n hx 0 dL_law_1103 rfl rfl ?_
  refine zl_iconst hx (v := nI 1) dL_law_1104 (by decide +kernel) ?_
  refine zl_iadd_n hx dL_law_1105 ?_
  refine zl_sld hx hX hbl hs0 hL (k := i + 1) (by omega) dL_law_1106 ?_
  refine zl_aload_n hx 3 dL_law_1107 rfl rfl ?_
  refine zl_iload_n hx 0 dL_law_1108 rfl rfl ?_
  refine zl_iconst hx (v := nI 2) dL_law_1109 (by decide +kernel) ?_
  refine zl_iadd_n hx dL_law_1110 ?_
  refine zl_sld hx hX hbl hs0 hL (k := i + 2) (by omega) dL_law_1111 ?_
  refine zl_bool hx dL_law_1112 dL_law_1115 dL_law_1116 dL_law_1119 ?_
  refine zl_aload_n hx 3 dL_law_1120 rfl rfl ?_
  refine zl_iload_n hx 0 dL_law_1121 rfl rfl ?_
  refine zl_iconst hx (v := nI 3) dL_law_1122 (by decide +kernel) ?_
  refine zl_iadd_n hx dL_law_1123 ?_
  refine zl_sld hx hX hbl hs0 hL (k := i + 3) (by omega) dL_law_1124 ?_
  refine zl_bool hx dL_law_1125 dL_law_1128 dL_law_1129 dL_law_1132 ?_
  refine zl_callV hx hA zRc (As := [.int (xs (i + 1)), .int (zdr (!decide (xs (i + 2) = 0))), .int (zdr (!decide (xs (i + 3) = 0)))]) (st := []) (k_X5_lost hI M hc (xs (i + 1)) (!decide (xs (i + 2) = 0)) (!decide (xs (i + 3) = 0))) zw_539 zy_X5_lost ⟨rfl, rfl⟩ (by decide) (zOB_X5 E) rfl rfl rfl rfl (Nat.le_of_ble_eq_true rfl) dL_law_1133 ?_
  rintro _ M1 ⟨v1, rfl, q1⟩
  obtain ⟨rfl, hc1, hf1⟩ := q1
  have hm1 := zMs_fC hm hf1
  show zL E s0 x 1136 _ _ _
  refine zl_aload_n hx 1 dL_law_1136 rfl rfl ?_
  refine zl_aload_n hx 3 dL_law_1137 rfl rfl ?_
  refine zl_iload_n hx 0 dL_law_1138 rfl rfl ?_
  refine zl_iconst hx (v := nI 1) dL_law_1139 (by decide +kernel) ?_
  refine zl_iadd_n hx dL_law_1140 ?_
  refine zl_sld hx hX hbl hs0 hL (k := i + 1) (by omega) dL_law_1141 ?_
  refine zl_aload_n hx 3 dL_law_1142 rfl rfl ?_
  refine zl_iload_n hx 0 dL_law_1143 rfl rfl ?_
  refine zl_iconst hx (v := nI 2) dL_law_1144 (by decide +kernel) ?_
  refine zl_iadd_n hx dL_law_1145 ?_
  refine zl_sld hx hX hbl hs0 hL (k := i + 2) (by omega) dL_law_1146 ?_
  refine zl_bool hx dL_law_1147 dL_law_1150 dL_law_1151 dL_law_1154 ?_
  refine zl_aload_n hx 3 dL_law_1155 rfl rfl ?_
  refine zl_iload_n hx 0 dL_law_1156 rfl rfl ?_
  refine zl_iconst hx (v := nI 3) dL_law_1157 (by decide +kernel) ?_
  refine zl_iadd_n hx dL_law_1158 ?_
  refine zl_sld hx hX hbl hs0 hL (k := i + 3) (by omega) dL_law_1159 ?_
  refine zl_bool hx dL_law_1160 dL_law_1163 dL_law_1164 dL_law_1167 ?_
  refine zl_callV hx hA zRc (As := [.int (xs (i + 1)), .int (zdr (!decide (xs (i + 2) = 0))), .int (zdr (!decide (xs (i + 3) = 0)))]) (st := [_]) (k_X6_lost hI M1 hm1 hk (xs (i + 1)) (!decide (xs (i + 2) = 0)) (!decide (xs (i + 3) = 0))) zw_885 zy_X6_lost ⟨rfl, rfl⟩ (by decide) (zOB_X6 E) rfl rfl rfl rfl (Nat.le_of_ble_eq_true rfl) dL_law_1168 ?_
  rintro _ M2 ⟨v2, rfl, q2⟩
  show zL E s0 x 1171 _ _ _
  obtain ⟨rfl, hm2, hf2⟩ := q2
  have fin := nxt M2 _ (zCs_fN hc1 hf2) hm2 h9
  exact zl_icmp_eq (tgt := 1322) hx dL_law_1171 (by decide) (fun _ => fin) (fun h => absurd rfl h)
set_option maxHeartbeats 4000000 in
set_option maxRecDepth 100000 in
theorem zcase_25 {E : zE} {s0 : Nat} {x : zX} {b L i : Nat} {xs : Nat → Int32} {M : zM} {σ : zSt} (hI : zI E) (hw : zLw E s0 x b L xs) (hc : zCs M σ) (hm : zMs M σ) (h9 : z99 σ) (hi : i + 4 ≤ L) (nxt : ∀ (M2 : zM) (σ2 : zSt), zCs M2 σ2 → zMs M2 σ2 → z99 σ2 → zL E s0 x 1322 (zlv E b i) [] M2) : zL E s0 x 1176 (zlv E b i) [] M := by
  obtain ⟨hx, hX, hbl, hs0, hL, hA, hZ⟩ := hw
  have hk := zCs_sk hc
  refine zl_aload_n hx 2 dL_law_1176 rfl rfl ?_
  refine zl_aload_n hx 3 dL_law_1177 rfl rfl ?_
  refine zl_iload_n hx 0 dL_law_1178 rfl rfl ?_
  refine zl_iconst hx (v := nI 1) dL_law_1179 (by decide +kernel) ?_
  refine zl_iadd_n hx dL_law_1180 ?_
  refine zl_sld hx hX hbl hs0 hL (k := i + 1) (by omega) dL_law_1181 ?_
  refine zl_i2l hx dL_law_1182 ?_
  refine zl_bipush hx (v := nI 32) dL_law_1183 (by decide +kernel) ?_
  refine zl_lshl hx dL_law_1185 ?_
  refine zl_aload_n hx 3 dL_law_1186 rfl rfl ?_
  refine zl_iload_n hx 0 dL_law_1187 rfl rfl ?_
  refine zl_iconst hx (v := nI 2) dL_law_1188 (by decide +kernel) ?_
  refine zl_iadd_n hx dL_law_1189 ?_
  refine zl_sld hx hX hbl hs0 hL (k := i + 2) (by omega) dL_law_1190 ?_
  refine zl_i2l hx dL_law_1191 ?_
  refine zl_ldc2 hx zw_913 dL_law_1192 ?_
  refine zl_land hx dL_law_1195 ?_
  refine zl_lor hx dL_law_1196 ?_
  refine zl_callV hx hA zRc (As := [.long ((((xs (i + 1)).toInt64) <<< ((nI 32).toInt64 &&& 63)) ||| (((xs (i + 2)).toInt64) &&& (4294967295)))]) (st := []) (k_X5_seed hI M hc ((((xs (i + 1)).toInt64) <<< ((nI 32).toInt64 &&& 63)) ||| (((xs (i + 2)).toInt64) &&& (4294967295)))) zw_544 zy_X5_seed ⟨rfl, rfl⟩ (by decide) (zOB_X5 E) rfl rfl rfl rfl (Nat.le_of_ble_eq_true rfl) dL_law_1197 ?_
  rintro _ M1 ⟨v1, rfl, q1⟩
  obtain ⟨rfl, hc1, hf1⟩ := q1
  have hm1 := zMs_fC hm hf1
  show zL E s0 x 1200 _ _ _
  refine zl_aload_n hx 1 dL_law_1200 rfl rfl ?_
  refine zl_aload_n hx 3 dL_law_1201 rfl rfl ?_
  refine zl_iload_n hx 0 dL_law_1202 rfl rfl ?_
  refine zl_iconst hx (v := nI 1) dL_law_1203 (by decide +kernel) ?_
  refine zl_iadd_n hx dL_law_1204 ?_
  refine zl_sld hx hX hbl hs0 hL (k := i + 1) (by omega) dL_law_1205 ?_
  refine zl_i2l hx dL_law_1206 ?_
  refine zl_bipush hx (v := nI 32) dL_law_1207 (by decide +kernel) ?_
  refine zl_lshl hx dL_law_1209 ?_
  refine zl_aload_n hx 3 dL_law_1210 rfl rfl ?_
  refine zl_iload_n hx 0 dL_law_1211 rfl rfl ?_
  refine zl_iconst hx (v := nI 2) dL_law_1212 (by decide +kernel) ?_
  refine zl_iadd_n hx dL_law_1213 ?_
  refine zl_sld hx hX hbl hs0 hL (k := i + 2) (by omega) dL_law_1214 ?_
  refine zl_i2l hx dL_law_1215 ?_
  refine zl_ldc2 hx zw_913 dL_law_1216 ?_
  refine zl_land hx dL_law_1219 ?_
  refine zl_lor hx dL_law_1220 ?_
  refine zl_callV hx hA zRc (As := [.long ((((xs (i + 1)).toInt64) <<< ((nI 32).toInt64 &&& 63)) ||| (((xs (i + 2)).toInt64) &&& (4294967295)))]) (st := [_]) (k_X6_seed hI M1 hm1 hk ((((xs (i + 1)).toInt64) <<< ((nI 32).toInt64 &&& 63)) ||| (((xs (i + 2)).toInt64) &&& (4294967295)))) zw_890 zy_X6_seed ⟨rfl, rfl⟩ (by decide) (zOB_X6 E) rfl rfl rfl rfl (Nat.le_of_ble_eq_true rfl) dL_law_1221 ?_
  rintro _ M2 ⟨v2, rfl, q2⟩
  show zL E s0 x 1224 _ _ _
  obtain ⟨rfl, hm2, hf2⟩ := q2
  have fin := nxt M2 _ (zCs_fN hc1 hf2) hm2 (z99_seed h9 ((((xs (i + 1)).toInt64) <<< ((nI 32).toInt64 &&& 63)) ||| (((xs (i + 2)).toInt64) &&& (4294967295))))
  refine zl_lcmp hx dL_law_1224 ?_
  exact zl_if_eq (tgt := 1322) hx dL_law_1225 (by decide) (fun _ => fin) (fun h => absurd ((lg_cmp_eq _ _).mpr rfl) h)
set_option maxHeartbeats 4000000 in
set_option maxRecDepth 100000 in
theorem zcase_26 {E : zE} {s0 : Nat} {x : zX} {b L i : Nat} {xs : Nat → Int32} {M : zM} {σ : zSt} (hI : zI E) (hw : zLw E s0 x b L xs) (hc : zCs M σ) (hm : zMs M σ) (h9 : z99 σ) (hi : i + 4 ≤ L) (nxt : ∀ (M2 : zM) (σ2 : zSt), zCs M2 σ2 → zMs M2 σ2 → z99 σ2 → zL E s0 x 1322 (zlv E b i) [] M2) : zL E s0 x 1230 (zlv E b i) [] M := by
  obtain ⟨hx, hX, hbl, hs0, hL, hA, hZ⟩ := hw
  have hk := zCs_sk hc
  refine zl_aload_n hx 2 dL_law_1230 rfl rfl ?_
  refine zl_aload_n hx 3 dL_law_1231 rfl rfl ?_
  refine zl_iload_n hx 0 dL_law_1232 rfl rfl ?_
  refine zl_iconst hx (v := nI 1) dL_law_1233 (by decide +kernel) ?_
  refine zl_iadd_n hx dL_law_1234 ?_
  refine zl_sld hx hX hbl hs0 hL (k := i + 1) (by omega) dL_law_1235 ?_
  refine zl_callV hx hA zRc (As := [.int (xs (i + 1))]) (st := []) (k_X5_drawn hI M hc zThy h9.1 (xs (i + 1))) zw_548 zy_X5_drawn ⟨rfl, rfl⟩ (by decide) (zOB_X5 E) rfl rfl rfl rfl (Nat.le_of_ble_eq_true rfl) dL_law_1236 ?_
  rintro _ M1 ⟨v1, rfl, q1⟩
  obtain ⟨rfl, hc1, hf1⟩ := q1
  have hm1 := zMs_fC hm hf1
  show zL E s0 x 1239 _ _ _
  refine zl_aload_n hx 1 dL_law_1239 rfl rfl ?_
  refine zl_aload_n hx 3 dL_law_1240 rfl rfl ?_
  refine zl_iload_n hx 0 dL_law_1241 rfl rfl ?_
  refine zl_iconst hx (v := nI 1) dL_law_1242 (by decide +kernel) ?_
  refine zl_iadd_n hx dL_law_1243 ?_
  refine zl_sld hx hX hbl hs0 hL (k := i + 1) (by omega) dL_law_1244 ?_
  refine zl_callV hx hA zRc (As := [.int (xs (i + 1))]) (st := [_]) (k_X6_drawn hI M1 hm1 hk h9.1 (xs (i + 1))) zw_894 zy_X6_drawn ⟨rfl, rfl⟩ (by decide) (zOB_X6 E) rfl rfl rfl rfl (Nat.le_of_ble_eq_true rfl) dL_law_1245 ?_
  rintro _ M2 ⟨v2, rfl, q2⟩
  show zL E s0 x 1248 _ _ _
  obtain ⟨rfl, hm2, hf2⟩ := q2
  have fin := nxt M2 _ (zCs_fN hc1 hf2) hm2 (z99_drawn h9 (xs (i + 1)))
  exact zl_icmp_eq (tgt := 1322) hx dL_law_1248 (by decide) (fun _ => fin) (fun h => absurd rfl h)
set_option maxHeartbeats 4000000 in
set_option maxRecDepth 100000 in
theorem zcase_27 {E : zE} {s0 : Nat} {x : zX} {b L i : Nat} {xs : Nat → Int32} {M : zM} {σ : zSt} (hI : zI E) (hw : zLw E s0 x b L xs) (hc : zCs M σ) (hm : zMs M σ) (h9 : z99 σ) (hi : i + 4 ≤ L) (nxt : ∀ (M2 : zM) (σ2 : zSt), zCs M2 σ2 → zMs M2 σ2 → z99 σ2 → zL E s0 x 1322 (zlv E b i) [] M2) : zL E s0 x 1253 (zlv E b i) [] M := by
  obtain ⟨hx, hX, hbl, hs0, hL, hA, hZ⟩ := hw
  have hk := zCs_sk hc
  refine zl_aload_n hx 2 dL_law_1253 rfl rfl ?_
  refine zl_aload_n hx 3 dL_law_1254 rfl rfl ?_
  refine zl_iload_n hx 0 dL_law_1255 rfl rfl ?_
  refine zl_iconst hx (v := nI 1) dL_law_1256 (by decide +kernel) ?_
  refine zl_iadd_n hx dL_law_1257 ?_
  refine zl_sld hx hX hbl hs0 hL (k := i + 1) (by omega) dL_law_1258 ?_
  refine zl_callV hx hA zRc (As := [.int (xs (i + 1))]) (st := []) (k_X5_keep hI M hc (xs (i + 1))) zw_558 zy_X5_keep ⟨rfl, rfl⟩ (by decide) (zOB_X5 E) rfl rfl rfl rfl (Nat.le_of_ble_eq_true rfl) dL_law_1259 ?_
  rintro _ M1 ⟨v1, rfl, q1⟩
  obtain ⟨rfl, hc1, hf1⟩ := q1
  have hm1 := zMs_fC hm hf1
  show zL E s0 x 1262 _ _ _
  refine zl_aload_n hx 1 dL_law_1262 rfl rfl ?_
  refine zl_aload_n hx 3 dL_law_1263 rfl rfl ?_
  refine zl_iload_n hx 0 dL_law_1264 rfl rfl ?_
  refine zl_iconst hx (v := nI 1) dL_law_1265 (by decide +kernel) ?_
  refine zl_iadd_n hx dL_law_1266 ?_
  refine zl_sld hx hX hbl hs0 hL (k := i + 1) (by omega) dL_law_1267 ?_
  refine zl_callV hx hA zRc (As := [.int (xs (i + 1))]) (st := [_]) (k_X6_keep hI M1 hm1 hk (xs (i + 1))) zw_901 zy_X6_keep ⟨rfl, rfl⟩ (by decide) (zOB_X6 E) rfl rfl rfl rfl (Nat.le_of_ble_eq_true rfl) dL_law_1268 ?_
  rintro _ M2 ⟨v2, rfl, q2⟩
  show zL E s0 x 1271 _ _ _
  obtain ⟨rfl, hm2, hf2⟩ := q2
  have fin := nxt M2 _ (zCs_fN hc1 hf2) hm2 (z99_keep h9 (xs (i + 1)))
  exact zl_icmp_eq (tgt := 1322) hx dL_law_1271 (by decide) (fun _ => fin) (fun h => absurd rfl h)
set_option maxHeartbeats 4000000 in
set_option maxRecDepth 100000 in
theorem zcase_28 {E : zE} {s0 : Nat} {x : zX} {b L i : Nat} {xs : Nat → Int32} {M : zM} {σ : zSt} (hI : zI E) (hw : zLw E s0 x b L xs) (hc : zCs M σ) (hm : zMs M σ) (h9 : z99 σ) (hi : i + 4 ≤ L) (nxt : ∀ (M2 : zM) (σ2 : zSt), zCs M2 σ2 → zMs M2 σ2 → z99 σ2 → zL E s0 x 1322 (zlv E b i) [] M2) : zL E s0 x 1276 (zlv E b i) [] M := by
  obtain ⟨hx, hX, hbl, hs0, hL, hA, hZ⟩ := hw
  have hk := zCs_sk hc
  refine zl_aload_n hx 2 dL_law_1276 rfl rfl ?_
  refine zl_aload_n hx 3 dL_law_1277 rfl rfl ?_
  refine zl_iload_n hx 0 dL_law_1278 rfl rfl ?_
  refine zl_iconst hx (v := nI 1) dL_law_1279 (by decide +kernel) ?_
  refine zl_iadd_n hx dL_law_1280 ?_
  refine zl_sld hx hX hbl hs0 hL (k := i + 1) (by omega) dL_law_1281 ?_
  refine zl_callV hx hA zRc (As := [.int (xs (i + 1))]) (st := []) (k_X5_again hI M hc (xs (i + 1))) zw_562 zy_X5_again ⟨rfl, rfl⟩ (by decide) (zOB_X5 E) rfl rfl rfl rfl (Nat.le_of_ble_eq_true rfl) dL_law_1282 ?_
  rintro _ M1 ⟨v1, rfl, q1⟩
  obtain ⟨rfl, hc1, hf1⟩ := q1
  have hm1 := zMs_fC hm hf1
  show zL E s0 x 1285 _ _ _
  refine zl_aload_n hx 1 dL_law_1285 rfl rfl ?_
  refine zl_aload_n hx 3 dL_law_1286 rfl rfl ?_
  refine zl_iload_n hx 0 dL_law_1287 rfl rfl ?_
  refine zl_iconst hx (v := nI 1) dL_law_1288 (by decide +kernel) ?_
  refine zl_iadd_n hx dL_law_1289 ?_
  refine zl_sld hx hX hbl hs0 hL (k := i + 1) (by omega) dL_law_1290 ?_
  refine zl_callV hx hA zRc (As := [.int (xs (i + 1))]) (st := [_]) (k_X6_again hI M1 hm1 hk (xs (i + 1))) zw_905 zy_X6_again ⟨rfl, rfl⟩ (by decide) (zOB_X6 E) rfl rfl rfl rfl (Nat.le_of_ble_eq_true rfl) dL_law_1291 ?_
  rintro _ M2 ⟨v2, rfl, q2⟩
  show zL E s0 x 1294 _ _ _
  obtain ⟨rfl, hm2, hf2⟩ := q2
  have fin := nxt M2 _ (zCs_fN hc1 hf2) hm2 (z99_again h9 (xs (i + 1)))
  exact zl_icmp_eq (tgt := 1322) hx dL_law_1294 (by decide) (fun _ => fin) (fun h => absurd rfl h)
set_option maxHeartbeats 4000000 in
set_option maxRecDepth 100000 in
theorem zcase_29 {E : zE} {s0 : Nat} {x : zX} {b L i : Nat} {xs : Nat → Int32} {M : zM} {σ : zSt} (hI : zI E) (hw : zLw E s0 x b L xs) (hc : zCs M σ) (hm : zMs M σ) (h9 : z99 σ) (hi : i + 4 ≤ L) (nxt : ∀ (M2 : zM) (σ2 : zSt), zCs M2 σ2 → zMs M2 σ2 → z99 σ2 → zL E s0 x 1322 (zlv E b i) [] M2) : zL E s0 x 1299 (zlv E b i) [] M := by
  obtain ⟨hx, hX, hbl, hs0, hL, hA, hZ⟩ := hw
  have hk := zCs_sk hc
  refine zl_aload_n hx 2 dL_law_1299 rfl rfl ?_
  refine zl_aload_n hx 3 dL_law_1300 rfl rfl ?_
  refine zl_iload_n hx 0 dL_law_1301 rfl rfl ?_
  refine zl_iconst hx (v := nI 1) dL_law_1302 (by decide +kernel) ?_
  refine zl_iadd_n hx dL_law_1303 ?_
  refine zl_sld hx hX hbl hs0 hL (k := i + 1) (by omega) dL_law_1304 ?_
  refine zl_callV hx hA zRc (As := [.int (xs (i + 1))]) (st := []) (k_X5_count hI M hc (xs (i + 1))) zw_566 zy_X5_count ⟨rfl, rfl⟩ (by decide) (zOB_X5 E) rfl rfl rfl rfl (Nat.le_of_ble_eq_true rfl) dL_law_1305 ?_
  rintro _ M1 ⟨v1, rfl, q1⟩
  obtain ⟨rfl, hM1⟩ := q1
  rw [hM1]
  show zL E s0 x 1308 _ _ _
  refine zl_aload_n hx 1 dL_law_1308 rfl rfl ?_
  refine zl_aload_n hx 3 dL_law_1309 rfl rfl ?_
  refine zl_iload_n hx 0 dL_law_1310 rfl rfl ?_
  refine zl_iconst hx (v := nI 1) dL_law_1311 (by decide +kernel) ?_
  refine zl_iadd_n hx dL_law_1312 ?_
  refine zl_sld hx hX hbl hs0 hL (k := i + 1) (by omega) dL_law_1313 ?_
  refine zl_callV hx hA zRc (As := [.int (xs (i + 1))]) (st := [_]) (k_X6_count hI M hm hk (xs (i + 1))) zw_909 zy_X6_count ⟨rfl, rfl⟩ (by decide) (zOB_X6 E) rfl rfl rfl rfl (Nat.le_of_ble_eq_true rfl) dL_law_1314 ?_
  rintro _ M2 ⟨v2, rfl, q2⟩
  show zL E s0 x 1317 _ _ _
  obtain ⟨rfl, hm2, hf2⟩ := q2
  have fin := nxt M2 _ (zCs_fN hc hf2) hm2 h9
  exact zl_icmp_eq (tgt := 1322) hx dL_law_1317 (by decide) (fun _ => fin) (fun h => absurd rfl h)
