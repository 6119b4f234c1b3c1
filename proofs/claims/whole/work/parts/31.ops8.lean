/-- by how much a reading is more by a drawn number -/
def zmo (b : Int32) (t : Nat) : Int := if ((b >>> (nI (2 * t) &&& 31)) &&& nI 3).toInt = 3 then 0 else ((b >>> (nI (2 * t) &&& 31)) &&& nI 3).toInt - 1
theorem zmo_x (b : Int32) (t : Nat) : ∃ j : Nat, j < 4 ∧ (b >>> (nI (2 * t) &&& 31)) &&& nI 3 = nI j := by
  obtain ⟨j, hj, e⟩ := pk_andE (b >>> (nI (2 * t) &&& 31)) (m := nI 3) 2 (by decide +kernel)
  exact ⟨j, by omega, e⟩
theorem zmo_j {b : Int32} {t j : Nat} (hj : j < 4) (e : (b >>> (nI (2 * t) &&& 31)) &&& nI 3 = nI j) : zmo b t = if j = 3 then 0 else (j : Int) - 1 := by
  unfold zmo
  rw [e, nI_toInt (by omega)]
  by_cases q : j = 3
  · subst q; rfl
  · rw [if_neg (by omega), if_neg q]
theorem zmo_ab (b : Int32) (t : Nat) : -1 ≤ zmo b t ∧ zmo b t ≤ 1 := by
  obtain ⟨j, hj, e⟩ := zmo_x b t
  rw [zmo_j hj e]
  split <;> omega
theorem zmo_2 : ∀ j, j < 4 → (nI j - nI 1 = nI 2 ↔ j = 3) := by decide +kernel
def zdraw (r : zRo) (b : Int32) : zRo := (r.1, r.2.1, r.2.2.1, r.2.2.2.1, fun t => r.2.2.2.2 t + zmo b t)
theorem zRm_rd {M : zM} {a w n mm : Nat} {cd : Nat → Nat} {rd rd2 : Nat → Int} (h : zRm M a w n mm cd rd) (e : ∀ t, t < n → rd2 t = rd t) : zRm M a w n mm cd rd2 := by
  obtain ⟨q1, q2, q3, q4, q5, q6, q7⟩ := h
  exact ⟨q1, q2, q3, q4, q5, q6, fun t ht => by rw [e t ht]; exact q7 t ht⟩
theorem zdr_v0 (z : Int) : Int32.ofInt z + nI 0 = Int32.ofInt (z + 0) := by rw [Int32.ofInt_add]; rfl
theorem zdr_v1 (z : Int) (j : Nat) : Int32.ofInt z + (nI j - nI 1) = Int32.ofInt (z + ((j : Int) - 1)) := by rw [Int32.ofInt_add, Int32.ofInt_sub]; rfl
theorem zdr_step {N : zM} {w n mm t : Nat} {cd : Nat → Nat} {rd ro : Nat → Int} {b v : Int32} (h : zRm N 49 w n mm cd (fun k => if k < t then rd k + zmo b k else ro k)) (ht : t < n) (h9 : -999 ≤ rd t ∧ rd t ≤ 999) (hv : v = Int32.ofInt (rd t + zmo b t)) : zRm (zputI N (49 + 2) t v) 49 w n mm cd (fun k => if k < t + 1 then rd k + zmo b k else ro k) := by
  have hm := zmo_ab b t
  rw [hv]
  refine zRm_rd (zRm_read (j := t) (z := rd t + zmo b t) h (by omega) (by omega)) (fun k hk => ?_)
  unfold va_up
  by_cases e : k = t
  · subst e
    rw [if_pos (Nat.lt_succ_self _), if_pos rfl]
  · rw [if_neg e]
    dsimp only
    by_cases q : k < t
    · rw [if_pos q, if_pos (by omega)]
    · rw [if_neg q, if_neg (by omega)]
set_option maxHeartbeats 4000000 in
set_option maxRecDepth 100000 in
theorem k_X5_drawReadings {E : zE} (hI : zI E) (M : zM) {w n mm : Nat} {cd : Nat → Nat} {rd ro : Nat → Int} (hR : zRm M 46 w n mm cd rd) (h9 : ∀ t, t < n → -999 ≤ rd t ∧ rd t ≤ 999) (hQ : zRm M 49 w n mm cd ro) (b : Int32) : zK E yX5_drawReadings (.code yX5_drawReadings cX5_drawReadings 4 none) (zrm 0 0) [.ref (E.2.2.2 0), .int b] M (zpv (fun M2 => zRm M2 49 w n mm cd (fun k => rd k + zmo b k) ∧ zfr (fun c => c = 51) M M2)) := by
  refine zK_of hI (by decide) (Nat.le_of_ble_eq_true rfl) (fun x hx ri rz rl rv => ?_)
  show zJ E x 0 [(0, .ref (E.2.2.2 0)), (1, .int b)] [] M
  have hn8 := hR.2.2.2.2.2.1
  refine z_iconst hx (v := nI 0) dX5_drawReadings_0 (by decide +kernel) ?_
  refine z_istore_n hx (lv2 := [(2, .int (nI 0)), (0, .ref (E.2.2.2 0)), (1, .int b)]) dX5_drawReadings_1 rfl (by decide) rfl ?_
  have loop2 : ∀ (fuel2 : Nat) (t : Nat) (N : zM) (_ : t ≤ n) (_ : zfr (fun c => c = 51) M N) (_ : zRm N 49 w n mm cd (fun k => if k < t then rd k + zmo b k else ro k)), n - t < fuel2 → zJ E x 2 [(2, .int (nI t)), (0, .ref (E.2.2.2 0)), (1, .int b)] [] N := by
    intro fuel2
    induction fuel2 with
    | zero =>
      intros; omega
    | succ fuel2 ih2 =>
      intro t N ht hNf hNr hfuel2
      refine z_iload_n hx 0 dX5_drawReadings_2 rfl rfl ?_
      refine z_aload_n hx 1 dX5_drawReadings_3 rfl rfl ?_
      refine zg_X5_1 hx zw_175 dX5_drawReadings_4 ?_
      refine zg_X3_2 hx zRoom_46 zw_86 dX5_drawReadings_7 ?_
      refine z_eqi (b := nI n) (by rw [(hNf 46 (by omega)).1]; exact hR.2.2.2.2.1) ?_
      refine z_icmp_ge_n (tgt := 58) hx (by omega) (by omega) dX5_drawReadings_10 (by decide) (fun h10 => ?_) (fun h10 => ?_)
      · skip
        exact rv _ _ _ rfl ⟨rfl, ⟨zRm_rd hNr (fun k hk => by rw [if_pos (by omega)]), hNf⟩⟩ dX5_drawReadings_58
      · skip
        refine z_iload_n hx 2 dX5_drawReadings_13 rfl rfl ?_
        refine z_iconst hx (v := nI 2) dX5_drawReadings_14 (by decide +kernel) ?_
        refine z_iload_n hx 0 dX5_drawReadings_15 rfl rfl ?_
        refine z_imul_n hx dX5_drawReadings_16 ?_
        refine z_ishr hx dX5_drawReadings_17 ?_
        refine z_iconst hx (v := nI 3) dX5_drawReadings_18 (by decide +kernel) ?_
        refine z_iand hx dX5_drawReadings_19 ?_
        obtain ⟨j, hj, ej⟩ := zmo_x b t
        refine z_eqi (b := nI j) ej ?_
        refine z_iconst hx (v := nI 1) dX5_drawReadings_20 (by decide +kernel) ?_
        refine z_isub hx dX5_drawReadings_21 ?_
        refine z_istore_n hx (lv2 := [(3, .int ((nI j) - (nI 1))), (2, .int (nI t)), (0, .ref (E.2.2.2 0)), (1, .int b)]) dX5_drawReadings_22 rfl (by decide) rfl ?_
        refine z_aload_n hx 2 dX5_drawReadings_23 rfl rfl ?_
        refine zg_X5_2 hx zw_176 dX5_drawReadings_24 ?_
        refine zg_X3_4 hx zRoom_49 zw_91 dX5_drawReadings_27 ?_
        refine z_iload_n hx 1 dX5_drawReadings_30 rfl rfl ?_
        refine z_aload_n hx 2 dX5_drawReadings_31 rfl rfl ?_
        refine zg_X5_1 hx zw_175 dX5_drawReadings_32 ?_
        refine zg_X3_4 hx zRoom_46 zw_91 dX5_drawReadings_35 ?_
        refine z_iload_n hx 1 dX5_drawReadings_38 rfl rfl ?_
        refine z_iald_n hx (zIA_reads zRoom_46 E) (by omega) dX5_drawReadings_39 ?_
        refine z_eqi (b := Int32.ofInt (rd t)) (by rw [(hNf 48 (by omega)).1]; exact (hR.2.2.2.2.2.2 t h10).2.2.2.1) ?_
        refine z_iload_n hx 0 dX5_drawReadings_40 rfl rfl ?_
        refine z_iconst hx (v := nI 2) dX5_drawReadings_41 (by decide +kernel) ?_
        refine z_icmp_ne (tgt := 49) hx dX5_drawReadings_42 (by decide) (fun h42 => ?_) (fun h42 => ?_)
        · skip
          refine z_iload_n hx 0 dX5_drawReadings_49 rfl rfl ?_
          refine z_iadd hx dX5_drawReadings_50 ?_
          refine z_iast_n hx (zIA_reads zRoom_49 E) (by omega) dX5_drawReadings_51 ?_
          refine z_iinc hx (w := nI (t + 1)) (lv2 := [(2, .int (nI (t + 1))), (3, .int ((nI j) - (nI 1))), (0, .ref (E.2.2.2 0)), (1, .int b)]) 1 dX5_drawReadings_52 rfl (z_inc _) (by decide) rfl ?_
          refine z_goto (tgt := 2) hx dX5_drawReadings_55 (by decide) ?_
          exact z_to (ih2 (t + 1) (zputI N (49 + 2) t ((Int32.ofInt (rd t)) + ((nI j) - (nI 1)))) (by omega) (zfr_tr hNf (zfr_putI rfl)) (zdr_step hNr h10 (h9 t h10) (by rw [zmo_j hj ej, if_neg (fun z => h42 ((zmo_2 j hj).mpr z))]; exact zdr_v1 _ _)) (by omega)) [0, 2, 3] rfl rfl
        · skip
          refine z_iconst hx (v := nI 0) dX5_drawReadings_45 (by decide +kernel) ?_
          refine z_goto (tgt := 50) hx dX5_drawReadings_46 (by decide) ?_
          refine z_iadd hx dX5_drawReadings_50 ?_
          refine z_iast_n hx (zIA_reads zRoom_49 E) (by omega) dX5_drawReadings_51 ?_
          refine z_iinc hx (w := nI (t + 1)) (lv2 := [(2, .int (nI (t + 1))), (3, .int ((nI j) - (nI 1))), (0, .ref (E.2.2.2 0)), (1, .int b)]) 1 dX5_drawReadings_52 rfl (z_inc _) (by decide) rfl ?_
          refine z_goto (tgt := 2) hx dX5_drawReadings_55 (by decide) ?_
          exact z_to (ih2 (t + 1) (zputI N (49 + 2) t ((Int32.ofInt (rd t)) + (nI 0))) (by omega) (zfr_tr hNf (zfr_putI rfl)) (zdr_step hNr h10 (h9 t h10) (by rw [zmo_j hj ej, if_pos ((zmo_2 j hj).mp h42)]; exact zdr_v0 _)) (by omega)) [0, 2, 3] rfl rfl
  exact z_to (loop2 _ 0 M (Nat.zero_le _) (zfr_rf _ _) (zRm_rd hQ (fun t ht => by simp)) (Nat.lt_succ_self _)) [0, 1, 2] rfl rfl
def zsd (x : Int64) : Int64 := x * 6364136223846793005 + 1442695040888963407
def zsv (x : Int64) : Int32 := (x.toUInt64 >>> ((nI 33).toInt64.toUInt64 &&& Int64.toUInt64 63)).toInt64.toInt32
/-- m draws: the seed, how often the doubtful one is the same -/
def zdw (r : zRo) (x : Int64) : Nat → Int64 × Nat
  | 0 => (x, 0)
  | k + 1 => (zsd (zdw r x k).1, if zop_doubtful (zdraw r (zsv (zsd (zdw r x k).1))) false = zop_doubtful r false then (zdw r x k).2 + 1 else (zdw r x k).2)
theorem zdw_le (r : zRo) (x : Int64) : ∀ k, (zdw r x k).2 ≤ k
  | 0 => Nat.le_refl _
  | k + 1 => by
    have h := zdw_le r x k
    show (if _ then (zdw r x k).2 + 1 else (zdw r x k).2) ≤ k + 1
    split
    · exact Nat.succ_le_succ h
    · exact Nat.le_trans h (Nat.le_succ k)
def zop_drawn (σ : zSt) (m : Int32) : Int32 × zSt := if m < nI 1 ∨ ¬ m ≤ nI 20 then (-2, σ) else (nI (zdw σ.2.2.1 σ.2.2.2.2.2.2 m.toNatClampNeg).2, (σ.1, σ.2.1, σ.2.2.1, σ.2.2.2.1, σ.2.2.2.2.1, σ.2.2.2.2.2.1, (zdw σ.2.2.1 σ.2.2.2.2.2.2 m.toNatClampNeg).1))
theorem zr120 {x : Int32} (h1 : ¬ x < nI 1) (h2 : x ≤ nI 20) : ∃ k, 1 ≤ k ∧ k ≤ 20 ∧ x = nI k := by
  have a := Int32.not_lt.mp h1
  have a2 := Int32.le_iff_toInt_le.mp a
  have b2 := Int32.le_iff_toInt_le.mp h2
  rw [nI_toInt (by decide)] at a2 b2
  obtain ⟨k, hk, rfl⟩ := nI_of (x := x) (fun z => by
    have z2 := Int32.lt_iff_toInt_lt.mp z
    rw [Int32.toInt_zero] at z2
    omega)
  rw [nI_toInt hk] at a2 b2
  exact ⟨k, by omega, by omega, rfl⟩
set_option maxHeartbeats 4000000 in
set_option maxRecDepth 100000 in
theorem k_X5_drawn {E : zE} (hI : zI E) (M : zM) {σ : zSt} (hσ : zCs M σ) (hth : zTheory) (h9 : ∀ t, t < σ.2.2.1.2.1 → -999 ≤ σ.2.2.1.2.2.2.2 t ∧ σ.2.2.1.2.2.2.2 t ≤ 999) (m : Int32) : zK E yX5_drawn (.code yX5_drawn cX5_drawn 5 (some .int)) (zrm 5 127) [.ref (E.2.2.2 0), .int m] M (zpi (fun v M2 => v = (zop_drawn σ m).1 ∧ zCs M2 (zop_drawn σ m).2 ∧ zfC M M2)) := by
  refine zK_of hI (by decide) (Nat.le_of_ble_eq_true rfl) (fun x hx ri rz rl rv => ?_)
  show zJ E x 0 [(0, .ref (E.2.2.2 0)), (1, .int m)] [] M
  obtain ⟨tx, len, ⟨w, n, mm, cd, rd⟩, as, s, sl, sd⟩ := σ
  have hσ2 := hσ
  obtain ⟨hT, hH, hA, hS, hD, hO⟩ := hσ
  have hR : zRm M 46 w n mm cd rd := hH
  have hTx : zTx M tx len := hT
  have hn8 := hR.2.2.2.2.2.1
  have hw4 := hR.2.1
  have hlen := hTx.2.1
  have hsd : M.2 0 8 = sd := hD
  obtain ⟨o, ho14, ho, hs, hs14, has⟩ := id hA
  have hs : M.1 4 2 = nI s := hs
  have hs14 : s ≤ 14 := hs14
  refine z_iload_n hx 1 dX5_drawn_0 rfl rfl ?_
  refine z_iconst hx (v := nI 1) dX5_drawn_1 (by decide +kernel) ?_
  refine z_icmp_lt (tgt := 11) hx dX5_drawn_2 (by decide) (fun h2 => ?_) (fun h2 => ?_)
  · skip
    refine z_bipush hx (v := (-2)) dX5_drawn_11 rfl ?_
    exact ri _ _ _ _ rfl ⟨_, rfl, ⟨by rw [zop_drawn, if_pos (by first | exact Or.inl h2 | exact Or.inr h8)], by rw [zop_drawn, if_pos (by first | exact Or.inl h2 | exact Or.inr h8)]; exact hσ2, zfr_rf _ _⟩⟩ dX5_drawn_13
  · skip
    refine z_iload_n hx 1 dX5_drawn_5 rfl rfl ?_
    refine z_bipush hx (v := nI 20) dX5_drawn_6 (by decide +kernel) ?_
    refine z_icmp_le (tgt := 14) hx dX5_drawn_8 (by decide) (fun h8 => ?_) (fun h8 => ?_)
    · skip
      obtain ⟨m1, hm1, hm20, rfl⟩ := zr120 h2 h8
      refine z_aload_n hx 0 dX5_drawn_14 rfl rfl ?_
      refine zg_X5_6 hx zw_180 dX5_drawn_15 ?_
      refine z_aload_n hx 0 dX5_drawn_18 rfl rfl ?_
      refine zg_X5_1 hx zw_175 dX5_drawn_19 ?_
      refine z_iconst hx (v := nI 0) dX5_drawn_22 (by decide +kernel) ?_
      refine z_callV hx (As := [.ref (E.2.2.2 46), .int (nI 0)]) (st := []) (kc_md hI hth M zRoom_46 hH false) zw_483 zy_X1_mostDoubtful ⟨rfl, rfl⟩ (by decide) (zOB_X1 E) rfl rfl rfl rfl (Nat.le_of_ble_eq_true rfl) dX5_drawn_23 ?_
      rintro _ M23 ⟨v23, rfl, q23⟩
      obtain ⟨rfl, q23⟩ := q23
      show zJ E x 26 _ [.int (zop_doubtful (w, n, mm, cd, rd) false)] _
      refine z_istore_n hx (lv2 := [(2, .int (zop_doubtful (w, n, mm, cd, rd) false)), (0, .ref (E.2.2.2 0)), (1, .int (nI m1))]) dX5_drawn_26 rfl (by decide) rfl ?_
      refine z_iconst hx (v := nI 0) dX5_drawn_27 (by decide +kernel) ?_
      refine z_istore_n hx (lv2 := [(3, .int (nI 0)), (2, .int (zop_doubtful (w, n, mm, cd, rd) false)), (0, .ref (E.2.2.2 0)), (1, .int (nI m1))]) dX5_drawn_28 rfl (by decide) rfl ?_
      refine z_aload_n hx 2 dX5_drawn_29 rfl rfl ?_
      refine zg_X5_2 hx zw_176 dX5_drawn_30 ?_
      refine z_aload_n hx 2 dX5_drawn_33 rfl rfl ?_
      refine zg_X5_1 hx zw_175 dX5_drawn_34 ?_
      refine z_callV hx (As := [.ref (E.2.2.2 46)]) (st := []) (k_X3_copy hI M23 (a := 49) (b := 46) zRoom_49 zRoom_46 (by omega)) zw_460 zy_X3_copy ⟨rfl, rfl⟩ (by decide) (zOB_room zRoom_49 E) rfl rfl rfl rfl (Nat.le_of_ble_eq_true rfl) dX5_drawn_37 ?_
      rintro _ M37 ⟨rfl, q37⟩
      show zJ E x 40 _ [] _
      refine z_iconst hx (v := nI 0) dX5_drawn_40 (by decide +kernel) ?_
      refine z_istore hx (lv2 := [(4, .int (nI 0)), (3, .int (nI 0)), (2, .int (zop_doubtful (w, n, mm, cd, rd) false)), (0, .ref (E.2.2.2 0)), (1, .int (nI m1))]) dX5_drawn_41 (by decide) rfl ?_
      have loop43 : ∀ (fuel43 : Nat) (k : Nat) (N : zM) (_ : k ≤ m1) (_ : zfr (fun c => c = 0 ∨ c = 7 ∨ c = 10 ∨ 15 ≤ c ∧ c ≤ 26 ∨ 49 ≤ c ∧ c ≤ 51) M N) (_ : ∃ ro, zRm N 49 w n mm cd ro) (_ : N.2 0 8 = (zdw (w, n, mm, cd, rd) sd k).1), m1 - k < fuel43 → zJ E x 43 [(4, .int (nI k)), (3, .int (nI ((zdw (w, n, mm, cd, rd) sd k).2))), (2, .int (zop_doubtful (w, n, mm, cd, rd) false)), (0, .ref (E.2.2.2 0)), (1, .int (nI m1))] [] N := by
        intro fuel43
        induction fuel43 with
        | zero =>
          intros; omega
        | succ fuel43 ih43 =>
          intro k N hk hNf hNr hN8 hfuel43
          refine z_iload hx 0 dX5_drawn_43 rfl ?_
          refine z_iload_n hx 4 dX5_drawn_45 rfl rfl ?_
          refine z_icmp_ge_n (tgt := 102) hx (by omega) (by omega) dX5_drawn_46 (by decide) (fun h46 => ?_) (fun h46 => ?_)
          · skip
            refine z_iload_n hx 1 dX5_drawn_102 rfl rfl ?_
            exact ri _ _ _ _ rfl ⟨_, rfl, (by
                rw [zop_drawn, if_neg (by rintro (z | z); exact h2 z; exact z h8), nI_clamp (by omega)]
                rw [show k = m1 by omega] at hN8 ⊢
                exact ⟨rfl, ⟨zTx_fr hT hNf (by omega) (by omega), zHr_fr hH hNf (by omega) (by omega) (by omega), zAc_fr hA hNf (by omega) (fun c z1 z2 => by omega), zSl_fr hS hNf (by omega) (fun c z1 z2 => by omega), hN8, hO⟩, zfr_w hNf (fun c h => by omega)⟩)⟩ dX5_drawn_103
          · skip
            obtain ⟨ro, hNr⟩ := hNr
            have hdl := zdw_le (w, n, mm, cd, rd) sd k
            refine z_aload_n hx 3 dX5_drawn_49 rfl rfl ?_
            refine z_aload_n hx 3 dX5_drawn_50 rfl rfl ?_
            refine zg_X5_8 hx zw_182 dX5_drawn_51 ?_
            refine z_eql (b := (zdw (w, n, mm, cd, rd) sd k).1) hN8 ?_
            refine z_ldc2 hx zw_552 dX5_drawn_54 ?_
            refine z_lmul hx dX5_drawn_57 ?_
            refine z_ldc2 hx zw_553 dX5_drawn_58 ?_
            refine z_ladd hx dX5_drawn_61 ?_
            refine z_eql (b := zsd (zdw (w, n, mm, cd, rd) sd k).1) rfl ?_
            refine zp_X5_8 hx zw_182 dX5_drawn_62 ?_
            refine z_aload_n hx 3 dX5_drawn_65 rfl rfl ?_
            refine z_aload_n hx 3 dX5_drawn_66 rfl rfl ?_
            refine zg_X5_8 hx zw_182 dX5_drawn_67 ?_
            refine z_eql (b := zsd (zdw (w, n, mm, cd, rd) sd k).1) zhtJ ?_
            refine z_bipush hx (v := nI 33) dX5_drawn_70 (by decide +kernel) ?_
            refine z_lushr hx dX5_drawn_72 ?_
            refine z_l2i hx dX5_drawn_73 ?_
            refine z_eqi (b := zsv (zsd (zdw (w, n, mm, cd, rd) sd k).1)) rfl ?_
            refine z_callV hx (As := [.int (zsv (zsd (zdw (w, n, mm, cd, rd) sd k).1))]) (st := []) (k_X5_drawReadings hI (zputJ N 0 8 (zsd (zdw (w, n, mm, cd, rd) sd k).1)) (rd := rd) (ro := ro) (zRm_fr (zRm_fr hR hNf (by omega) (by omega) (by omega)) (zfr_putJ (cs := fun c => c = 0) rfl) (by omega) (by omega) (by omega)) h9 (zRm_fr hNr (zfr_putJ (cs := fun c => c = 0) rfl) (by omega) (by omega) (by omega)) (zsv (zsd (zdw (w, n, mm, cd, rd) sd k).1))) zw_554 zy_X5_drawReadings ⟨rfl, rfl⟩ (by decide) (zOB_X5 E) rfl rfl rfl rfl (Nat.le_of_ble_eq_true rfl) dX5_drawn_74 ?_
            rintro _ M74 ⟨rfl, q74⟩
            show zJ E x 77 _ [] _
            refine z_aload_n hx 3 dX5_drawn_77 rfl rfl ?_
            refine zg_X5_6 hx zw_180 dX5_drawn_78 ?_
            refine z_aload_n hx 3 dX5_drawn_81 rfl rfl ?_
            refine zg_X5_2 hx zw_176 dX5_drawn_82 ?_
            refine z_iconst hx (v := nI 0) dX5_drawn_85 (by decide +kernel) ?_
            refine z_callV hx (As := [.ref (E.2.2.2 49), .int (nI 0)]) (st := []) (kc_md hI hth M74 zRoom_49 (r := zdraw (w, n, mm, cd, rd) (zsv (zsd (zdw (w, n, mm, cd, rd) sd k).1))) q74.1 false) zw_483 zy_X1_mostDoubtful ⟨rfl, rfl⟩ (by decide) (zOB_X1 E) rfl rfl rfl rfl (Nat.le_of_ble_eq_true rfl) dX5_drawn_86 ?_
            rintro _ M86 ⟨v86, rfl, q86⟩
            obtain ⟨rfl, q86⟩ := q86
            show zJ E x 89 _ [.int (zop_doubtful (zdraw (w, n, mm, cd, rd) (zsv (zsd (zdw (w, n, mm, cd, rd) sd k).1))) false)] _
            refine z_iload_n hx 2 dX5_drawn_89 rfl rfl ?_
            refine z_icmp_ne (tgt := 96) hx dX5_drawn_90 (by decide) (fun h90 => ?_) (fun h90 => ?_)
            · skip
              refine z_iinc hx (w := nI (k + 1)) (lv2 := [(4, .int (nI (k + 1))), (3, .int (nI ((zdw (w, n, mm, cd, rd) sd k).2))), (2, .int (zop_doubtful (w, n, mm, cd, rd) false)), (0, .ref (E.2.2.2 0)), (1, .int (nI m1))]) 0 dX5_drawn_96 rfl (z_inc _) (by decide) rfl ?_
              refine z_goto (tgt := 43) hx dX5_drawn_99 (by decide) ?_
              exact z_to (ih43 (k + 1) M86 (by omega) (zfr_tr hNf (zfr_tr (zfr_putJ (Or.inl rfl)) (zfr_tr (zfr_w q74.2 (fun c h => by omega)) (zfr_w q86 (fun c h => by omega))))) ⟨_, zRm_fr q74.1 q86 (by omega) (by omega) (by omega)⟩ (by rw [(q86 0 (by omega)).2, (q74.2 0 (by omega)).2]; exact zhtJ) (by omega)) [0, 1, 2, 3, 4] (by rw [show (zdw (w, n, mm, cd, rd) sd (k + 1)).2 = _ from if_neg h90]; rfl) rfl
            · skip
              refine z_iinc hx (w := nI ((zdw (w, n, mm, cd, rd) sd k).2 + 1)) (lv2 := [(3, .int (nI ((zdw (w, n, mm, cd, rd) sd k).2 + 1))), (4, .int (nI k)), (2, .int (zop_doubtful (w, n, mm, cd, rd) false)), (0, .ref (E.2.2.2 0)), (1, .int (nI m1))]) 1 dX5_drawn_93 rfl (z_inc _) (by decide) rfl ?_
              refine z_iinc hx (w := nI (k + 1)) (lv2 := [(4, .int (nI (k + 1))), (3, .int (nI ((zdw (w, n, mm, cd, rd) sd k).2 + 1))), (2, .int (zop_doubtful (w, n, mm, cd, rd) false)), (0, .ref (E.2.2.2 0)), (1, .int (nI m1))]) 1 dX5_drawn_96 rfl (z_inc _) (by decide) rfl ?_
              refine z_goto (tgt := 43) hx dX5_drawn_99 (by decide) ?_
              exact z_to (ih43 (k + 1) M86 (by omega) (zfr_tr hNf (zfr_tr (zfr_putJ (Or.inl rfl)) (zfr_tr (zfr_w q74.2 (fun c h => by omega)) (zfr_w q86 (fun c h => by omega))))) ⟨_, zRm_fr q74.1 q86 (by omega) (by omega) (by omega)⟩ (by rw [(q86 0 (by omega)).2, (q74.2 0 (by omega)).2]; exact zhtJ) (by omega)) [0, 1, 2, 3, 4] (by rw [show (zdw (w, n, mm, cd, rd) sd (k + 1)).2 = _ from if_pos h90]; rfl) rfl
      exact z_to (loop43 _ 0 M37 (Nat.zero_le _) (zfr_tr (zfr_w q23 (fun c h => by omega)) (zfr_w q37.2.2 (fun c h => by omega))) ⟨rd, zRm_eq ⟨q37.1, q37.2.1⟩ (zRm_fr hR q23 (by omega) (by omega) (by omega))⟩ (by rw [(q37.2.2 0 (by omega)).2, (q23 0 (by omega)).2]; exact hsd) (Nat.lt_succ_self _)) [0, 1, 2, 3, 4] rfl rfl
    · skip
      refine z_bipush hx (v := (-2)) dX5_drawn_11 rfl ?_
      exact ri _ _ _ _ rfl ⟨_, rfl, ⟨by rw [zop_drawn, if_pos (by first | exact Or.inl h2 | exact Or.inr h8)], by rw [zop_drawn, if_pos (by first | exact Or.inl h2 | exact Or.inr h8)]; exact hσ2, zfr_rf _ _⟩⟩ dX5_drawn_13
