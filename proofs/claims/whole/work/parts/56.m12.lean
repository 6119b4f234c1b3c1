theorem zin_m1 {x : Int32} {w : Nat} (hw : w ≤ 7) : (0 ≤ x.toInt64 ∧ x.toInt64 ≤ (nI w).toInt64) ↔ ¬ (x < 0 ∨ nI (w + 1) ≤ x) := by
  have e : nI w = nI (w + 1) - nI 1 := Eq.symm (nI_pred w)
  rw [e]
  exact zin_m (by omega)
theorem zMs_L {M N : zM} {σ : zSt} (h : zMs M σ) (hf : zfL (zputI M 32 0 (nI 0)) N) : zMs N σ ∧ zfN M N := ⟨zMs_fr (zMs_t h) hf (by omega) (by omega) (by omega) (by omega) (by omega) (by omega) (by omega) (by omega) (by omega), zfr_tr zfN_t (zfr_w hf.1 (fun c z => by omega))⟩
theorem zPr_t {M : zM} {σ : zSt} (h : zMs M σ) (hk : zSk σ) : zPr (zputI M 32 0 (nI 0)) 35 σ.2.2.1 := ⟨zskK (by omega) h.2.1, h.2.2.1, hk.1⟩
set_option maxHeartbeats 4000000 in
set_option maxRecDepth 100000 in
theorem k_X6_noColumn {E : zE} (hI : zI E) (M : zM) {w : Nat} (hW : M.1 32 4 = nI w) (hw4 : 1 ≤ w ∧ w ≤ 4) (t : Int32) (d : Bool) : zK E yX6_noColumn (.code yX6_noColumn cX6_noColumn 3 (some .boolean)) (zrm 1 25) [.ref (E.2.2.2 32), .int t, .int (zdr d)] M (zpi (fun v M2 => ((∃ j, j < zunk w d ∧ t = nI j ∧ v = nI 0) ∨ ((t < 0 ∨ nI (zunk w d) ≤ t) ∧ v = nI 1)) ∧ M2 = M)) := by
  refine zK_of hI (by decide) (Nat.le_of_ble_eq_true rfl) (fun x hx ri rz rl rv => ?_)
  show zJ E x 0 [(0, .ref (E.2.2.2 32)), (1, .int t), (2, .int (zdr d))] [] M
  refine z_iload_n hx 1 dX6_noColumn_0 rfl rfl ?_
  refine z_i2l hx dX6_noColumn_1 ?_
  refine z_lconst hx (v := 0) dX6_noColumn_2 rfl ?_
  refine z_iload_n hx 2 dX6_noColumn_3 rfl rfl ?_
  refine z_if_eq_d (tgt := 15) hx dX6_noColumn_4 (by decide) (fun h4 => ?_) (fun h4 => ?_)
  · skip
    have hdt : zunk w d = w := by rw [h4]; rfl
    refine z_aload_n hx 0 dX6_noColumn_15 rfl rfl ?_
    refine zg_X6_4 hx zw_580 dX6_noColumn_16 ?_
    refine z_eqi (b := nI w) hW ?_
    refine z_iconst hx (v := nI 1) dX6_noColumn_19 (by decide +kernel) ?_
    refine z_isub hx dX6_noColumn_20 ?_
    refine z_i2l hx dX6_noColumn_21 ?_
    refine z_callS hx (As := [.long t.toInt64, .long 0, .long (((nI w) - (nI 1)).toInt64)]) (st := []) (k_X6_in hI M t.toInt64 0 (((nI w) - (nI 1)).toInt64)) zw_654 zy_X6_in ⟨rfl, rfl⟩ (by decide) rfl rfl (Nat.le_of_ble_eq_true rfl) dX6_noColumn_22 ?_
    rintro _ M22 ⟨v22, rfl, q22⟩
    obtain ⟨q22, hmm⟩ := q22
    rw [hmm]
    rw [zin_m (by omega)] at q22
    rcases q22 with ⟨q22, rfl⟩ | ⟨q22, rfl⟩
    · skip
      show zJ E x 25 _ [.int (nI 1)] _
      refine z_if_ne_n (tgt := 32) hx (by decide) dX6_noColumn_25 (by decide) (fun _ => ?_) (fun h => absurd h (by decide))
      refine z_iconst hx (v := nI 0) dX6_noColumn_32 (by decide +kernel) ?_
      exact rz _ _ _ _ rfl (Or.inl rfl) ⟨_, rfl, ⟨Or.inl (by rw [hdt]; obtain ⟨j, hj, e⟩ := zix (by omega) (znot q22).1 (znot q22).2; exact ⟨j, hj, e, rfl⟩), rfl⟩⟩ dX6_noColumn_33
    · skip
      show zJ E x 25 _ [.int (nI 0)] _
      refine z_if_ne_n (tgt := 32) hx (by decide) dX6_noColumn_25 (by decide) (fun h => absurd h (by decide)) (fun _ => ?_)
      refine z_iconst hx (v := nI 1) dX6_noColumn_28 (by decide +kernel) ?_
      refine z_goto (tgt := 33) hx dX6_noColumn_29 (by decide) ?_
      exact rz _ _ _ _ rfl (Or.inr rfl) ⟨_, rfl, ⟨Or.inr ⟨by rw [hdt]; exact Classical.byContradiction (fun z => q22 z), rfl⟩, rfl⟩⟩ dX6_noColumn_33
  · skip
    have hdt : zunk w d = w + 1 := by rw [h4]; rfl
    refine z_aload_n hx 0 dX6_noColumn_7 rfl rfl ?_
    refine zg_X6_4 hx zw_580 dX6_noColumn_8 ?_
    refine z_eqi (b := nI w) hW ?_
    refine z_i2l hx dX6_noColumn_11 ?_
    refine z_goto (tgt := 22) hx dX6_noColumn_12 (by decide) ?_
    refine z_callS hx (As := [.long t.toInt64, .long 0, .long ((nI w).toInt64)]) (st := []) (k_X6_in hI M t.toInt64 0 ((nI w).toInt64)) zw_654 zy_X6_in ⟨rfl, rfl⟩ (by decide) rfl rfl (Nat.le_of_ble_eq_true rfl) dX6_noColumn_22 ?_
    rintro _ M22 ⟨v22, rfl, q22⟩
    obtain ⟨q22, hmm⟩ := q22
    rw [hmm]
    rw [zin_m1 (by omega)] at q22
    rcases q22 with ⟨q22, rfl⟩ | ⟨q22, rfl⟩
    · skip
      show zJ E x 25 _ [.int (nI 1)] _
      refine z_if_ne_n (tgt := 32) hx (by decide) dX6_noColumn_25 (by decide) (fun _ => ?_) (fun h => absurd h (by decide))
      refine z_iconst hx (v := nI 0) dX6_noColumn_32 (by decide +kernel) ?_
      exact rz _ _ _ _ rfl (Or.inl rfl) ⟨_, rfl, ⟨Or.inl (by rw [hdt]; obtain ⟨j, hj, e⟩ := zix (by omega) (znot q22).1 (znot q22).2; exact ⟨j, hj, e, rfl⟩), rfl⟩⟩ dX6_noColumn_33
    · skip
      show zJ E x 25 _ [.int (nI 0)] _
      refine z_if_ne_n (tgt := 32) hx (by decide) dX6_noColumn_25 (by decide) (fun h => absurd h (by decide)) (fun _ => ?_)
      refine z_iconst hx (v := nI 1) dX6_noColumn_28 (by decide +kernel) ?_
      refine z_goto (tgt := 33) hx dX6_noColumn_29 (by decide) ?_
      exact rz _ _ _ _ rfl (Or.inr rfl) ⟨_, rfl, ⟨Or.inr ⟨by rw [hdt]; exact Classical.byContradiction (fun z => q22 z), rfl⟩, rfl⟩⟩ dX6_noColumn_33
set_option maxHeartbeats 4000000 in
set_option maxRecDepth 100000 in
theorem k_X6_value {E : zE} (hI : zI E) (M : zM) {σ : zSt} (hσ : zMs M σ) (hk : zSk σ) (t : Int32) (d up : Bool) : zK E yX6_value (.code yX6_value cX6_value 4 (some .long)) (zrm 5 121) [.ref (E.2.2.2 32), .int t, .int (zdr d), .int (zdr up)] M (zpl (fun v M2 => v = zop_value σ.2.2.1 t d up ∧ zMs M2 σ ∧ zfN M M2)) := by
  refine zK_of hI (by decide) (Nat.le_of_ble_eq_true rfl) (fun x hx ri rz rl rv => ?_)
  show zJ E x 0 [(0, .ref (E.2.2.2 32)), (1, .int t), (2, .int (zdr d)), (3, .int (zdr up))] [] M
  obtain ⟨tx, len, ⟨w, n, mm, cd, rd⟩, as, s, sl, sd⟩ := σ
  have hσ2 := hσ
  obtain ⟨⟨hL, hT⟩, hW, hP, ⟨hs, hA⟩, hS, hsd⟩ := hσ
  have hv := hk.1
  have hw4 : 1 ≤ w ∧ w ≤ 4 := hv.1
  have hmm : mm ≤ 99 := hv.2.1
  have hn8 : n ≤ 8 := hv.2.2.1
  have hlen : len ≤ 90 := hk.2.1.1
  have hs14 : s ≤ 14 := hk.2.2.1
  have hL : M.1 32 2 = nI len := hL
  have hW : M.1 32 4 = nI w := hW
  have hs : M.1 32 11 = nI s := hs
  have hsd : M.2 32 14 = sd := hsd
  have hP0 : M.1 35 0 = nI mm := hP.1
  have hP1 : M.1 35 1 = nI n := hP.2.1
  have hP2 : ∀ t, t < n → M.1 35 (2 + t) = nI (cd t) ∧ M.1 35 (10 + t) = Int32.ofInt (rd t) := hP.2.2
  have hT : ∀ k, k < 90 → M.1 33 k = nI (tx k) := hT
  have hu := zunk_le hw4.2 d
  have hpn := zp2 hn8
  have hR0 : zPr (zputI M 32 0 (nI 0)) 35 (w, n, mm, cd, rd) := zPr_t hσ2 hk
  have hDD : 0 ≤ zdet (zunk w d) (zGm (w, n, mm, cd, rd) d zall) ∧ zdet (zunk w d) (zGm (w, n, mm, cd, rd) d zall) ≤ 600000 := zD_in (r := (w, n, mm, cd, rd)) hk.1 d zall
  have hwu : w ≤ (zunk w d) := by unfold zunk; split <;> omega
  refine z_aload_n hx 0 dX6_value_0 rfl rfl ?_
  refine z_iconst hx (v := nI 0) dX6_value_1 (by decide +kernel) ?_
  refine zp_X6_0 hx zw_576 dX6_value_2 ?_
  refine z_aload_n hx 0 dX6_value_5 rfl rfl ?_
  refine z_iload_n hx 1 dX6_value_6 rfl rfl ?_
  refine z_iload_n hx 2 dX6_value_7 rfl rfl ?_
  refine z_callV hx (As := [.int t, .int (zdr d)]) (st := []) (k_X6_noColumn hI (zputI M 32 0 (nI 0)) (w := w) (zskK (by omega) hW) hw4 t d) zw_796 zy_X6_noColumn ⟨rfl, rfl⟩ (by decide) (zOB_X6 E) rfl rfl rfl rfl (Nat.le_of_ble_eq_true rfl) dX6_value_8 ?_
  rintro _ M8 ⟨v8, rfl, q8⟩
  obtain ⟨q8, hmm⟩ := q8
  rw [hmm]
  rcases q8 with ⟨j, hj, rfl, rfl⟩ | ⟨q8, rfl⟩
  · skip
    show zJ E x 11 _ [.int (nI 0)] _
    refine z_if_eq_n (tgt := 18) hx (by decide) dX6_value_11 (by decide) (fun _ => ?_) (fun h => absurd h (by decide))
    refine z_aload_n hx 0 dX6_value_18 rfl rfl ?_
    refine z_aload_n hx 0 dX6_value_19 rfl rfl ?_
    refine zg_X6_7 hx zw_583 dX6_value_20 ?_
    refine z_aload_n hx 0 dX6_value_23 rfl rfl ?_
    refine zg_X6_7 hx zw_583 dX6_value_24 ?_
    refine z_callS hx (As := [.ref (E.2.2.2 35)]) (st := [.ref (E.2.2.2 35), .ref (E.2.2.2 32)]) (k_X6_allOf hI (zputI M 32 0 (nI 0)) (p := 35) (n := n) zPc_35 hP1 hn8) zw_752 zy_X6_allOf ⟨rfl, rfl⟩ (by decide) rfl rfl (Nat.le_of_ble_eq_true rfl) dX6_value_27 ?_
    rintro _ M27 ⟨v27, rfl, q27⟩
    obtain ⟨rfl, q27⟩ := q27
    rw [q27]
    show zJ E x 30 _ [.int (nI (2 ^ n - 1)), .ref (E.2.2.2 35), .ref (E.2.2.2 32)] _
    refine z_iload_n hx 2 dX6_value_30 rfl rfl ?_
    refine z_callV hx (As := [.ref (E.2.2.2 35), .int (nI (2 ^ n - 1)), .int (zdr d)]) (st := []) (k_X6_isLaid hI (zputI M 32 0 (nI 0)) zPc_35 hR0 (s := 2 ^ n - 1) (by omega) d) zw_801 zy_X6_isLaid ⟨rfl, rfl⟩ (by decide) (zOB_X6 E) rfl rfl rfl rfl (Nat.le_of_ble_eq_true rfl) dX6_value_31 ?_
    rintro _ M31 ⟨v31, rfl, q31⟩
    rw [show zGm (w, n, mm, cd, rd) d (zst (2 ^ n - 1)) = (zGm (w, n, mm, cd, rd) d zall) from zGm_al (r := (w, n, mm, cd, rd)) d hn8] at q31
    obtain ⟨q31, hGl, hfl⟩ := q31
    rcases q31 with ⟨hne, rfl⟩ | ⟨hze, rfl⟩
    · skip
      show zJ E x 34 _ [.int (nI 1)] _
      refine z_if_ne_n (tgt := 41) hx (by decide) dX6_value_34 (by decide) (fun _ => ?_) (fun h => absurd h (by decide))
      refine z_aload_n hx 0 dX6_value_41 rfl rfl ?_
      refine z_aload_n hx 0 dX6_value_42 rfl rfl ?_
      refine z_aload_n hx 0 dX6_value_43 rfl rfl ?_
      refine z_callV hx (As := []) (st := [.ref (E.2.2.2 32), .ref (E.2.2.2 32)]) (k_X6_columns hI M31 hu hGl.1) zw_777 zy_X6_columns ⟨rfl, rfl⟩ (by decide) (zOB_X6 E) rfl rfl rfl rfl (Nat.le_of_ble_eq_true rfl) dX6_value_44 ?_
      rintro _ M44 ⟨v44, rfl, q44⟩
      obtain ⟨rfl, q44⟩ := q44
      rw [q44]
      show zJ E x 47 _ [.int (nI (2 ^ zunk w d - 1)), .ref (E.2.2.2 32), .ref (E.2.2.2 32)] _
      refine z_iload_n hx 1 dX6_value_47 rfl rfl ?_
      refine z_callV hx (As := [.int (nI (2 ^ zunk w d - 1)), .int (nI j)]) (st := [.ref (E.2.2.2 32)]) (kc_mi hI M31 (r := (w, n, mm, cd, rd)) hk.1 hGl (i := j) hj) zw_784 zy_X6_minor ⟨rfl, rfl⟩ (by decide) (zOB_X6 E) rfl rfl rfl rfl (Nat.le_of_ble_eq_true rfl) dX6_value_48 ?_
      rintro _ M48 ⟨v48, rfl, q48⟩
      obtain ⟨rfl, q48⟩ := q48
      show zJ E x 51 _ [.long (Int64.ofInt (zVal (zGm (w, n, mm, cd, rd) d zall) (zunk w d) j)), .ref (E.2.2.2 32)] _
      refine z_aload_n hx 0 dX6_value_51 rfl rfl ?_
      refine z_aload_n hx 0 dX6_value_52 rfl rfl ?_
      refine z_callV hx (As := []) (st := [.ref (E.2.2.2 32), .long (Int64.ofInt (zVal (zGm (w, n, mm, cd, rd) d zall) (zunk w d) j)), .ref (E.2.2.2 32)]) (k_X6_columns hI M48 hu (zGt_fr hGl (zfm_of (ks := fun _ => False) q48 (by omega)) (by omega) (by omega) (fun z => z) (fun z => z)).1) zw_777 zy_X6_columns ⟨rfl, rfl⟩ (by decide) (zOB_X6 E) rfl rfl rfl rfl (Nat.le_of_ble_eq_true rfl) dX6_value_53 ?_
      rintro _ M53 ⟨v53, rfl, q53⟩
      obtain ⟨rfl, q53⟩ := q53
      rw [q53]
      show zJ E x 56 _ [.int (nI (2 ^ zunk w d - 1)), .ref (E.2.2.2 32), .long (Int64.ofInt (zVal (zGm (w, n, mm, cd, rd) d zall) (zunk w d) j)), .ref (E.2.2.2 32)] _
      refine z_bipush hx (v := (-9)) dX6_value_56 rfl ?_
      refine z_callV hx (As := [.int (nI (2 ^ zunk w d - 1)), .int (-9)]) (st := [.long (Int64.ofInt (zVal (zGm (w, n, mm, cd, rd) d zall) (zunk w d) j)), .ref (E.2.2.2 32)]) (kc_mf hI M48 (r := (w, n, mm, cd, rd)) hk.1 (zGt_fr hGl (zfm_of (ks := fun _ => False) q48 (by omega)) (by omega) (by omega) (fun z => z) (fun z => z))) zw_784 zy_X6_minor ⟨rfl, rfl⟩ (by decide) (zOB_X6 E) rfl rfl rfl rfl (Nat.le_of_ble_eq_true rfl) dX6_value_58 ?_
      rintro _ M58 ⟨v58, rfl, q58⟩
      obtain ⟨rfl, q58⟩ := q58
      show zJ E x 61 _ [.long (Int64.ofInt (zdet (zunk w d) (zGm (w, n, mm, cd, rd) d zall))), .long (Int64.ofInt (zVal (zGm (w, n, mm, cd, rd) d zall) (zunk w d) j)), .ref (E.2.2.2 32)] _
      refine z_eql (b := Int64.ofInt (((zdet (zunk w d) (zGm (w, n, mm, cd, rd) d zall)).natAbs : Nat) : Int)) (zdna hDD.1) ?_
      refine z_callV hx (As := [.long (Int64.ofInt (zVal (zGm (w, n, mm, cd, rd) d zall) (zunk w d) j)), .long (Int64.ofInt (((zdet (zunk w d) (zGm (w, n, mm, cd, rd) d zall)).natAbs : Nat) : Int))]) (st := []) (k_X6_layFraction hI M58 (zVal (zGm (w, n, mm, cd, rd) d zall) (zunk w d) j) (zdet (zunk w d) (zGm (w, n, mm, cd, rd) d zall)).natAbs (zab_rg (zV_in (r := (w, n, mm, cd, rd)) hk.1 d zall hj) (by decide)) (by omega) (by omega)) zw_806 zy_X6_layFraction ⟨rfl, rfl⟩ (by decide) (zOB_X6 E) rfl rfl rfl rfl (Nat.le_of_ble_eq_true rfl) dX6_value_61 ?_
      rintro _ M61 ⟨rfl, q61⟩
      show zJ E x 64 _ [] _
      refine z_aload_n hx 0 dX6_value_64 rfl rfl ?_
      refine z_iload_n hx 3 dX6_value_65 rfl rfl ?_
      refine z_callV hx (As := [.int (zdr up)]) (st := []) (k_X6_told hI M61 q61.1 q61.2.1 up) zw_813 zy_X6_told ⟨rfl, rfl⟩ (by decide) (zOB_X6 E) rfl rfl rfl rfl (Nat.le_of_ble_eq_true rfl) dX6_value_66 ?_
      rintro _ M66 ⟨v66, rfl, q66⟩
      obtain ⟨rfl, q66⟩ := q66
      rw [q66]
      show zJ E x 69 _ [.long (Int64.ofInt (zTold (zVal (zGm (w, n, mm, cd, rd) d zall) (zunk w d) j) (zdet (zunk w d) (zGm (w, n, mm, cd, rd) d zall)).natAbs up))] _
      exact rl _ _ _ _ rfl ⟨_, rfl, (by
          rw [zop_value, if_neg (zin_u hj hu), nI_clamp (by omega), if_neg hne]
          exact ⟨rfl, zMs_L hσ2 (zfm_tr hfl (zfm_tr (zfm_of (zfr_w q48 (fun c z => by omega)) (by omega)) (zfm_tr (zfm_of (zfr_w q58 (fun c z => by omega)) (by omega)) (zfm_w q61.2.2 (fun c z => False.elim z) (fun k z => by omega)))))⟩)⟩ dX6_value_69
    · skip
      show zJ E x 34 _ [.int (nI 0)] _
      refine z_if_ne_n (tgt := 41) hx (by decide) dX6_value_34 (by decide) (fun h => absurd h (by decide)) (fun _ => ?_)
      refine z_ldc2 hx zw_805 dX6_value_37 ?_
      exact rl _ _ _ _ rfl ⟨_, rfl, ⟨by rw [zop_value, if_neg (zin_u hj hu), nI_clamp (by omega), if_pos hze], zMs_L hσ2 hfl⟩⟩ dX6_value_40
  · skip
    show zJ E x 11 _ [.int (nI 1)] _
    refine z_if_eq_n (tgt := 18) hx (by decide) dX6_value_11 (by decide) (fun h => absurd h (by decide)) (fun _ => ?_)
    refine z_ldc2 hx zw_800 dX6_value_14 ?_
    exact rl _ _ _ _ rfl ⟨_, rfl, ⟨by rw [zop_value, if_pos q8], zMs_t hσ2, zfN_t⟩⟩ dX6_value_17
set_option maxHeartbeats 4000000 in
set_option maxRecDepth 100000 in
theorem k_X6_spread {E : zE} (hI : zI E) (M : zM) {σ : zSt} (hσ : zMs M σ) (hk : zSk σ) (t : Int32) (d up : Bool) : zK E yX6_spread (.code yX6_spread cX6_spread 4 (some .long)) (zrm 5 121) [.ref (E.2.2.2 32), .int t, .int (zdr d), .int (zdr up)] M (zpl (fun v M2 => v = zop_spread σ.2.2.1 t d up ∧ zMs M2 σ ∧ zfN M M2)) := by
  refine zK_of hI (by decide) (Nat.le_of_ble_eq_true rfl) (fun x hx ri rz rl rv => ?_)
  show zJ E x 0 [(0, .ref (E.2.2.2 32)), (1, .int t), (2, .int (zdr d)), (3, .int (zdr up))] [] M
  obtain ⟨tx, len, ⟨w, n, mm, cd, rd⟩, as, s, sl, sd⟩ := σ
  have hσ2 := hσ
  obtain ⟨⟨hL, hT⟩, hW, hP, ⟨hs, hA⟩, hS, hsd⟩ := hσ
  have hv := hk.1
  have hw4 : 1 ≤ w ∧ w ≤ 4 := hv.1
  have hmm : mm ≤ 99 := hv.2.1
  have hn8 : n ≤ 8 := hv.2.2.1
  have hlen : len ≤ 90 := hk.2.1.1
  have hs14 : s ≤ 14 := hk.2.2.1
  have hL : M.1 32 2 = nI len := hL
  have hW : M.1 32 4 = nI w := hW
  have hs : M.1 32 11 = nI s := hs
  have hsd : M.2 32 14 = sd := hsd
  have hP0 : M.1 35 0 = nI mm := hP.1
  have hP1 : M.1 35 1 = nI n := hP.2.1
  have hP2 : ∀ t, t < n → M.1 35 (2 + t) = nI (cd t) ∧ M.1 35 (10 + t) = Int32.ofInt (rd t) := hP.2.2
  have hT : ∀ k, k < 90 → M.1 33 k = nI (tx k) := hT
  have hu := zunk_le hw4.2 d
  have hpn := zp2 hn8
  have hR0 : zPr (zputI M 32 0 (nI 0)) 35 (w, n, mm, cd, rd) := zPr_t hσ2 hk
  have hDD : 0 ≤ zdet (zunk w d) (zGm (w, n, mm, cd, rd) d zall) ∧ zdet (zunk w d) (zGm (w, n, mm, cd, rd) d zall) ≤ 600000 := zD_in (r := (w, n, mm, cd, rd)) hk.1 d zall
  have hwu : w ≤ (zunk w d) := by unfold zunk; split <;> omega
  refine z_aload_n hx 0 dX6_spread_0 rfl rfl ?_
  refine z_iconst hx (v := nI 0) dX6_spread_1 (by decide +kernel) ?_
  refine zp_X6_0 hx zw_576 dX6_spread_2 ?_
  refine z_aload_n hx 0 dX6_spread_5 rfl rfl ?_
  refine z_iload_n hx 1 dX6_spread_6 rfl rfl ?_
  refine z_iload_n hx 2 dX6_spread_7 rfl rfl ?_
  refine z_callV hx (As := [.int t, .int (zdr d)]) (st := []) (k_X6_noColumn hI (zputI M 32 0 (nI 0)) (w := w) (zskK (by omega) hW) hw4 t d) zw_796 zy_X6_noColumn ⟨rfl, rfl⟩ (by decide) (zOB_X6 E) rfl rfl rfl rfl (Nat.le_of_ble_eq_true rfl) dX6_spread_8 ?_
  rintro _ M8 ⟨v8, rfl, q8⟩
  obtain ⟨q8, hmm⟩ := q8
  rw [hmm]
  rcases q8 with ⟨j, hj, rfl, rfl⟩ | ⟨q8, rfl⟩
  · skip
    show zJ E x 11 _ [.int (nI 0)] _
    refine z_if_eq_n (tgt := 18) hx (by decide) dX6_spread_11 (by decide) (fun _ => ?_) (fun h => absurd h (by decide))
    refine z_aload_n hx 0 dX6_spread_18 rfl rfl ?_
    refine z_aload_n hx 0 dX6_spread_19 rfl rfl ?_
    refine zg_X6_7 hx zw_583 dX6_spread_20 ?_
    refine z_aload_n hx 0 dX6_spread_23 rfl rfl ?_
    refine zg_X6_7 hx zw_583 dX6_spread_24 ?_
    refine z_callS hx (As := [.ref (E.2.2.2 35)]) (st := [.ref (E.2.2.2 35), .ref (E.2.2.2 32)]) (k_X6_allOf hI (zputI M 32 0 (nI 0)) (p := 35) (n := n) zPc_35 hP1 hn8) zw_752 zy_X6_allOf ⟨rfl, rfl⟩ (by decide) rfl rfl (Nat.le_of_ble_eq_true rfl) dX6_spread_27 ?_
    rintro _ M27 ⟨v27, rfl, q27⟩
    obtain ⟨rfl, q27⟩ := q27
    rw [q27]
    show zJ E x 30 _ [.int (nI (2 ^ n - 1)), .ref (E.2.2.2 35), .ref (E.2.2.2 32)] _
    refine z_iload_n hx 2 dX6_spread_30 rfl rfl ?_
    refine z_callV hx (As := [.ref (E.2.2.2 35), .int (nI (2 ^ n - 1)), .int (zdr d)]) (st := []) (k_X6_isLaid hI (zputI M 32 0 (nI 0)) zPc_35 hR0 (s := 2 ^ n - 1) (by omega) d) zw_801 zy_X6_isLaid ⟨rfl, rfl⟩ (by decide) (zOB_X6 E) rfl rfl rfl rfl (Nat.le_of_ble_eq_true rfl) dX6_spread_31 ?_
    rintro _ M31 ⟨v31, rfl, q31⟩
    rw [show zGm (w, n, mm, cd, rd) d (zst (2 ^ n - 1)) = (zGm (w, n, mm, cd, rd) d zall) from zGm_al (r := (w, n, mm, cd, rd)) d hn8] at q31
    obtain ⟨q31, hGl, hfl⟩ := q31
    rcases q31 with ⟨hne, rfl⟩ | ⟨hze, rfl⟩
    · skip
      show zJ E x 34 _ [.int (nI 1)] _
      refine z_if_ne_n (tgt := 41) hx (by decide) dX6_spread_34 (by decide) (fun _ => ?_) (fun h => absurd h (by decide))
      refine z_aload_n hx 0 dX6_spread_41 rfl rfl ?_
      refine z_aload_n hx 0 dX6_spread_42 rfl rfl ?_
      refine z_aload_n hx 0 dX6_spread_43 rfl rfl ?_
      refine z_callV hx (As := []) (st := [.ref (E.2.2.2 32), .ref (E.2.2.2 32)]) (k_X6_columns hI M31 hu hGl.1) zw_777 zy_X6_columns ⟨rfl, rfl⟩ (by decide) (zOB_X6 E) rfl rfl rfl rfl (Nat.le_of_ble_eq_true rfl) dX6_spread_44 ?_
      rintro _ M44 ⟨v44, rfl, q44⟩
      obtain ⟨rfl, q44⟩ := q44
      rw [q44]
      show zJ E x 47 _ [.int (nI (2 ^ zunk w d - 1)), .ref (E.2.2.2 32), .ref (E.2.2.2 32)] _
      refine z_iconst hx (v := nI 1) dX6_spread_47 (by decide +kernel) ?_
      refine z_iload_n hx 1 dX6_spread_48 rfl rfl ?_
      refine z_ishl hx dX6_spread_49 ?_
      refine z_iconst hx (v := (-1)) dX6_spread_50 rfl ?_
      refine z_ixor hx dX6_spread_51 ?_
      refine z_iand hx dX6_spread_52 ?_
      refine z_eqi (b := nI (2 ^ zunk w d - 1 - 2 ^ j)) (zmsk (zunk w d) (by omega) j hj) ?_
      refine z_bipush hx (v := (-9)) dX6_spread_53 rfl ?_
      refine z_callV hx (As := [.int (nI (2 ^ zunk w d - 1 - 2 ^ j)), .int (-9)]) (st := [.ref (E.2.2.2 32)]) (kc_ms hI M31 (r := (w, n, mm, cd, rd)) hk.1 hGl (i := j) hj) zw_784 zy_X6_minor ⟨rfl, rfl⟩ (by decide) (zOB_X6 E) rfl rfl rfl rfl (Nat.le_of_ble_eq_true rfl) dX6_spread_55 ?_
      rintro _ M55 ⟨v55, rfl, q55⟩
      obtain ⟨rfl, q55⟩ := q55
      show zJ E x 58 _ [.long (Int64.ofInt (zMin (zGm (w, n, mm, cd, rd) d zall) (zunk w d) j)), .ref (E.2.2.2 32)] _
      refine z_aload_n hx 0 dX6_spread_58 rfl rfl ?_
      refine z_aload_n hx 0 dX6_spread_59 rfl rfl ?_
      refine z_callV hx (As := []) (st := [.ref (E.2.2.2 32), .long (Int64.ofInt (zMin (zGm (w, n, mm, cd, rd) d zall) (zunk w d) j)), .ref (E.2.2.2 32)]) (k_X6_columns hI M55 hu (zGt_fr hGl (zfm_of (ks := fun _ => False) q55 (by omega)) (by omega) (by omega) (fun z => z) (fun z => z)).1) zw_777 zy_X6_columns ⟨rfl, rfl⟩ (by decide) (zOB_X6 E) rfl rfl rfl rfl (Nat.le_of_ble_eq_true rfl) dX6_spread_60 ?_
      rintro _ M60 ⟨v60, rfl, q60⟩
      obtain ⟨rfl, q60⟩ := q60
      rw [q60]
      show zJ E x 63 _ [.int (nI (2 ^ zunk w d - 1)), .ref (E.2.2.2 32), .long (Int64.ofInt (zMin (zGm (w, n, mm, cd, rd) d zall) (zunk w d) j)), .ref (E.2.2.2 32)] _
      refine z_bipush hx (v := (-9)) dX6_spread_63 rfl ?_
      refine z_callV hx (As := [.int (nI (2 ^ zunk w d - 1)), .int (-9)]) (st := [.long (Int64.ofInt (zMin (zGm (w, n, mm, cd, rd) d zall) (zunk w d) j)), .ref (E.2.2.2 32)]) (kc_mf hI M55 (r := (w, n, mm, cd, rd)) hk.1 (zGt_fr hGl (zfm_of (ks := fun _ => False) q55 (by omega)) (by omega) (by omega) (fun z => z) (fun z => z))) zw_784 zy_X6_minor ⟨rfl, rfl⟩ (by decide) (zOB_X6 E) rfl rfl rfl rfl (Nat.le_of_ble_eq_true rfl) dX6_spread_65 ?_
      rintro _ M65 ⟨v65, rfl, q65⟩
      obtain ⟨rfl, q65⟩ := q65
      show zJ E x 68 _ [.long (Int64.ofInt (zdet (zunk w d) (zGm (w, n, mm, cd, rd) d zall))), .long (Int64.ofInt (zMin (zGm (w, n, mm, cd, rd) d zall) (zunk w d) j)), .ref (E.2.2.2 32)] _
      refine z_eql (b := Int64.ofInt (((zdet (zunk w d) (zGm (w, n, mm, cd, rd) d zall)).natAbs : Nat) : Int)) (zdna hDD.1) ?_
      refine z_callV hx (As := [.long (Int64.ofInt (zMin (zGm (w, n, mm, cd, rd) d zall) (zunk w d) j)), .long (Int64.ofInt (((zdet (zunk w d) (zGm (w, n, mm, cd, rd) d zall)).natAbs : Nat) : Int))]) (st := []) (k_X6_layFraction hI M65 (zMin (zGm (w, n, mm, cd, rd) d zall) (zunk w d) j) (zdet (zunk w d) (zGm (w, n, mm, cd, rd) d zall)).natAbs (zab_rg (zGm_min (r := (w, n, mm, cd, rd)) hk.1 d zall hj) (by decide)) (by omega) (by omega)) zw_806 zy_X6_layFraction ⟨rfl, rfl⟩ (by decide) (zOB_X6 E) rfl rfl rfl rfl (Nat.le_of_ble_eq_true rfl) dX6_spread_68 ?_
      rintro _ M68 ⟨rfl, q68⟩
      show zJ E x 71 _ [] _
      refine z_aload_n hx 0 dX6_spread_71 rfl rfl ?_
      refine z_iload_n hx 3 dX6_spread_72 rfl rfl ?_
      refine z_callV hx (As := [.int (zdr up)]) (st := []) (k_X6_told hI M68 q68.1 q68.2.1 up) zw_813 zy_X6_told ⟨rfl, rfl⟩ (by decide) (zOB_X6 E) rfl rfl rfl rfl (Nat.le_of_ble_eq_true rfl) dX6_spread_73 ?_
      rintro _ M73 ⟨v73, rfl, q73⟩
      obtain ⟨rfl, q73⟩ := q73
      rw [q73]
      show zJ E x 76 _ [.long (Int64.ofInt (zTold (zMin (zGm (w, n, mm, cd, rd) d zall) (zunk w d) j) (zdet (zunk w d) (zGm (w, n, mm, cd, rd) d zall)).natAbs up))] _
      exact rl _ _ _ _ rfl ⟨_, rfl, (by
          rw [zop_spread, if_neg (zin_u hj hu), nI_clamp (by omega), if_neg hne]
          exact ⟨rfl, zMs_L hσ2 (zfm_tr hfl (zfm_tr (zfm_of (zfr_w q55 (fun c z => by omega)) (by omega)) (zfm_tr (zfm_of (zfr_w q65 (fun c z => by omega)) (by omega)) (zfm_w q68.2.2 (fun c z => False.elim z) (fun k z => by omega)))))⟩)⟩ dX6_spread_76
    · skip
      show zJ E x 34 _ [.int (nI 0)] _
      refine z_if_ne_n (tgt := 41) hx (by decide) dX6_spread_34 (by decide) (fun h => absurd h (by decide)) (fun _ => ?_)
      refine z_ldc2 hx zw_805 dX6_spread_37 ?_
      exact rl _ _ _ _ rfl ⟨_, rfl, ⟨by rw [zop_spread, if_neg (zin_u hj hu), nI_clamp (by omega), if_pos hze], zMs_L hσ2 hfl⟩⟩ dX6_spread_40
  · skip
    show zJ E x 11 _ [.int (nI 1)] _
    refine z_if_eq_n (tgt := 18) hx (by decide) dX6_spread_11 (by decide) (fun h => absurd h (by decide)) (fun _ => ?_)
    refine z_ldc2 hx zw_800 dX6_spread_14 ?_
    exact rl _ _ _ _ rfl ⟨_, rfl, ⟨by rw [zop_spread, if_pos q8], zMs_t hσ2, zfN_t⟩⟩ dX6_spread_17
set_option maxHeartbeats 4000000 in
set_option maxRecDepth 100000 in
theorem k_X6_total {E : zE} (hI : zI E) (M : zM) {σ : zSt} (hσ : zMs M σ) (hk : zSk σ) (d up : Bool) : zK E yX6_total (.code yX6_total cX6_total 3 (some .long)) (zrm 5 121) [.ref (E.2.2.2 32), .int (zdr d), .int (zdr up)] M (zpl (fun v M2 => v = zop_total σ.2.2.1 d up ∧ zMs M2 σ ∧ zfN M M2)) := by
  refine zK_of hI (by decide) (Nat.le_of_ble_eq_true rfl) (fun x hx ri rz rl rv => ?_)
  show zJ E x 0 [(0, .ref (E.2.2.2 32)), (1, .int (zdr d)), (2, .int (zdr up))] [] M
  obtain ⟨tx, len, ⟨w, n, mm, cd, rd⟩, as, s, sl, sd⟩ := σ
  have hσ2 := hσ
  obtain ⟨⟨hL, hT⟩, hW, hP, ⟨hs, hA⟩, hS, hsd⟩ := hσ
  have hv := hk.1
  have hw4 : 1 ≤ w ∧ w ≤ 4 := hv.1
  have hmm : mm ≤ 99 := hv.2.1
  have hn8 : n ≤ 8 := hv.2.2.1
  have hlen : len ≤ 90 := hk.2.1.1
  have hs14 : s ≤ 14 := hk.2.2.1
  have hL : M.1 32 2 = nI len := hL
  have hW : M.1 32 4 = nI w := hW
  have hs : M.1 32 11 = nI s := hs
  have hsd : M.2 32 14 = sd := hsd
  have hP0 : M.1 35 0 = nI mm := hP.1
  have hP1 : M.1 35 1 = nI n := hP.2.1
  have hP2 : ∀ t, t < n → M.1 35 (2 + t) = nI (cd t) ∧ M.1 35 (10 + t) = Int32.ofInt (rd t) := hP.2.2
  have hT : ∀ k, k < 90 → M.1 33 k = nI (tx k) := hT
  have hu := zunk_le hw4.2 d
  have hpn := zp2 hn8
  have hR0 : zPr (zputI M 32 0 (nI 0)) 35 (w, n, mm, cd, rd) := zPr_t hσ2 hk
  have hDD : 0 ≤ zdet (zunk w d) (zGm (w, n, mm, cd, rd) d zall) ∧ zdet (zunk w d) (zGm (w, n, mm, cd, rd) d zall) ≤ 600000 := zD_in (r := (w, n, mm, cd, rd)) hk.1 d zall
  have hwu : w ≤ (zunk w d) := by unfold zunk; split <;> omega
  refine z_aload_n hx 0 dX6_total_0 rfl rfl ?_
  refine z_iconst hx (v := nI 0) dX6_total_1 (by decide +kernel) ?_
  refine zp_X6_0 hx zw_576 dX6_total_2 ?_
  refine z_aload_n hx 0 dX6_total_5 rfl rfl ?_
  refine z_aload_n hx 0 dX6_total_6 rfl rfl ?_
  refine zg_X6_7 hx zw_583 dX6_total_7 ?_
  refine z_aload_n hx 0 dX6_total_10 rfl rfl ?_
  refine zg_X6_7 hx zw_583 dX6_total_11 ?_
  refine z_callS hx (As := [.ref (E.2.2.2 35)]) (st := [.ref (E.2.2.2 35), .ref (E.2.2.2 32)]) (k_X6_allOf hI (zputI M 32 0 (nI 0)) (p := 35) (n := n) zPc_35 hP1 hn8) zw_752 zy_X6_allOf ⟨rfl, rfl⟩ (by decide) rfl rfl (Nat.le_of_ble_eq_true rfl) dX6_total_14 ?_
  rintro _ M14 ⟨v14, rfl, q14⟩
  obtain ⟨rfl, q14⟩ := q14
  rw [q14]
  show zJ E x 17 _ [.int (nI (2 ^ n - 1)), .ref (E.2.2.2 35), .ref (E.2.2.2 32)] _
  refine z_iload_n hx 1 dX6_total_17 rfl rfl ?_
  refine z_callV hx (As := [.ref (E.2.2.2 35), .int (nI (2 ^ n - 1)), .int (zdr d)]) (st := []) (k_X6_isLaid hI (zputI M 32 0 (nI 0)) zPc_35 hR0 (s := 2 ^ n - 1) (by omega) d) zw_801 zy_X6_isLaid ⟨rfl, rfl⟩ (by decide) (zOB_X6 E) rfl rfl rfl rfl (Nat.le_of_ble_eq_true rfl) dX6_total_18 ?_
  rintro _ M18 ⟨v18, rfl, q18⟩
  rw [show zGm (w, n, mm, cd, rd) d (zst (2 ^ n - 1)) = (zGm (w, n, mm, cd, rd) d zall) from zGm_al (r := (w, n, mm, cd, rd)) d hn8] at q18
  obtain ⟨q18, hGl, hfl⟩ := q18
  rcases q18 with ⟨hne, rfl⟩ | ⟨hze, rfl⟩
  · skip
    show zJ E x 21 _ [.int (nI 1)] _
    refine z_if_ne_n (tgt := 28) hx (by decide) dX6_total_21 (by decide) (fun _ => ?_) (fun h => absurd h (by decide))
    refine z_aload_n hx 0 dX6_total_28 rfl rfl ?_
    refine z_callV hx (As := []) (st := []) (k_X6_layTotal hI M18 (r := (w, n, mm, cd, rd)) hk.1 hGl hne ((hfl.2 4 (by omega)).1.trans (zskK (by omega) hW))) zw_825 zy_X6_layTotal ⟨rfl, rfl⟩ (by decide) (zOB_X6 E) rfl rfl rfl rfl (Nat.le_of_ble_eq_true rfl) dX6_total_29 ?_
    rintro _ M29 ⟨rfl, q29⟩
    show zJ E x 32 _ [] _
    refine z_aload_n hx 0 dX6_total_32 rfl rfl ?_
    refine z_iload_n hx 2 dX6_total_33 rfl rfl ?_
    refine z_callV hx (As := [.int (zdr up)]) (st := []) (k_X6_told hI M29 q29.1 q29.2.1 up) zw_813 zy_X6_told ⟨rfl, rfl⟩ (by decide) (zOB_X6 E) rfl rfl rfl rfl (Nat.le_of_ble_eq_true rfl) dX6_total_34 ?_
    rintro _ M34 ⟨v34, rfl, q34⟩
    obtain ⟨rfl, q34⟩ := q34
    rw [q34]
    show zJ E x 37 _ [.long (Int64.ofInt (zTold (zS w (fun k => zMin (zGm (w, n, mm, cd, rd) d zall) (zunk w d) k)) (zdet (zunk w d) (zGm (w, n, mm, cd, rd) d zall)).natAbs up))] _
    exact rl _ _ _ _ rfl ⟨_, rfl, (by
        rw [zop_total, if_neg hne]
        exact ⟨rfl, zMs_L hσ2 (zfm_tr hfl q29.2.2.2)⟩)⟩ dX6_total_37
  · skip
    show zJ E x 21 _ [.int (nI 0)] _
    refine z_if_ne_n (tgt := 28) hx (by decide) dX6_total_21 (by decide) (fun h => absurd h (by decide)) (fun _ => ?_)
    refine z_ldc2 hx zw_805 dX6_total_24 ?_
    exact rl _ _ _ _ rfl ⟨_, rfl, ⟨by rw [zop_total, if_pos hze], zMs_L hσ2 hfl⟩⟩ dX6_total_27
set_option maxHeartbeats 4000000 in
set_option maxRecDepth 100000 in
theorem k_X6_squares {E : zE} (hI : zI E) (M : zM) {σ : zSt} (hσ : zMs M σ) (hk : zSk σ) (d up : Bool) : zK E yX6_squares (.code yX6_squares cX6_squares 3 (some .long)) (zrm 5 121) [.ref (E.2.2.2 32), .int (zdr d), .int (zdr up)] M (zpl (fun v M2 => v = zop_squares σ.2.2.1 d up ∧ zMs M2 σ ∧ zfN M M2)) := by
  refine zK_of hI (by decide) (Nat.le_of_ble_eq_true rfl) (fun x hx ri rz rl rv => ?_)
  show zJ E x 0 [(0, .ref (E.2.2.2 32)), (1, .int (zdr d)), (2, .int (zdr up))] [] M
  obtain ⟨tx, len, ⟨w, n, mm, cd, rd⟩, as, s, sl, sd⟩ := σ
  have hσ2 := hσ
  obtain ⟨⟨hL, hT⟩, hW, hP, ⟨hs, hA⟩, hS, hsd⟩ := hσ
  have hv := hk.1
  have hw4 : 1 ≤ w ∧ w ≤ 4 := hv.1
  have hmm : mm ≤ 99 := hv.2.1
  have hn8 : n ≤ 8 := hv.2.2.1
  have hlen : len ≤ 90 := hk.2.1.1
  have hs14 : s ≤ 14 := hk.2.2.1
  have hL : M.1 32 2 = nI len := hL
  have hW : M.1 32 4 = nI w := hW
  have hs : M.1 32 11 = nI s := hs
  have hsd : M.2 32 14 = sd := hsd
  have hP0 : M.1 35 0 = nI mm := hP.1
  have hP1 : M.1 35 1 = nI n := hP.2.1
  have hP2 : ∀ t, t < n → M.1 35 (2 + t) = nI (cd t) ∧ M.1 35 (10 + t) = Int32.ofInt (rd t) := hP.2.2
  have hT : ∀ k, k < 90 → M.1 33 k = nI (tx k) := hT
  have hu := zunk_le hw4.2 d
  have hpn := zp2 hn8
  have hR0 : zPr (zputI M 32 0 (nI 0)) 35 (w, n, mm, cd, rd) := zPr_t hσ2 hk
  have hDD : 0 ≤ zdet (zunk w d) (zGm (w, n, mm, cd, rd) d zall) ∧ zdet (zunk w d) (zGm (w, n, mm, cd, rd) d zall) ≤ 600000 := zD_in (r := (w, n, mm, cd, rd)) hk.1 d zall
  have hwu : w ≤ (zunk w d) := by unfold zunk; split <;> omega
  refine z_aload_n hx 0 dX6_squares_0 rfl rfl ?_
  refine z_iconst hx (v := nI 0) dX6_squares_1 (by decide +kernel) ?_
  refine zp_X6_0 hx zw_576 dX6_squares_2 ?_
  refine z_aload_n hx 0 dX6_squares_5 rfl rfl ?_
  refine z_aload_n hx 0 dX6_squares_6 rfl rfl ?_
  refine zg_X6_7 hx zw_583 dX6_squares_7 ?_
  refine z_aload_n hx 0 dX6_squares_10 rfl rfl ?_
  refine zg_X6_7 hx zw_583 dX6_squares_11 ?_
  refine z_callS hx (As := [.ref (E.2.2.2 35)]) (st := [.ref (E.2.2.2 35), .ref (E.2.2.2 32)]) (k_X6_allOf hI (zputI M 32 0 (nI 0)) (p := 35) (n := n) zPc_35 hP1 hn8) zw_752 zy_X6_allOf ⟨rfl, rfl⟩ (by decide) rfl rfl (Nat.le_of_ble_eq_true rfl) dX6_squares_14 ?_
  rintro _ M14 ⟨v14, rfl, q14⟩
  obtain ⟨rfl, q14⟩ := q14
  rw [q14]
  show zJ E x 17 _ [.int (nI (2 ^ n - 1)), .ref (E.2.2.2 35), .ref (E.2.2.2 32)] _
  refine z_iload_n hx 1 dX6_squares_17 rfl rfl ?_
  refine z_callV hx (As := [.ref (E.2.2.2 35), .int (nI (2 ^ n - 1)), .int (zdr d)]) (st := []) (k_X6_isLaid hI (zputI M 32 0 (nI 0)) zPc_35 hR0 (s := 2 ^ n - 1) (by omega) d) zw_801 zy_X6_isLaid ⟨rfl, rfl⟩ (by decide) (zOB_X6 E) rfl rfl rfl rfl (Nat.le_of_ble_eq_true rfl) dX6_squares_18 ?_
  rintro _ M18 ⟨v18, rfl, q18⟩
  rw [show zGm (w, n, mm, cd, rd) d (zst (2 ^ n - 1)) = (zGm (w, n, mm, cd, rd) d zall) from zGm_al (r := (w, n, mm, cd, rd)) d hn8] at q18
  obtain ⟨q18, hGl, hfl⟩ := q18
  rcases q18 with ⟨hne, rfl⟩ | ⟨hze, rfl⟩
  · skip
    show zJ E x 21 _ [.int (nI 1)] _
    refine z_if_ne_n (tgt := 28) hx (by decide) dX6_squares_21 (by decide) (fun _ => ?_) (fun h => absurd h (by decide))
    refine z_aload_n hx 0 dX6_squares_28 rfl rfl ?_
    refine z_callV hx (As := []) (st := []) (k_X6_laySquares hI M18 (r := (w, n, mm, cd, rd)) hk.1 hGl hne) zw_837 zy_X6_laySquares ⟨rfl, rfl⟩ (by decide) (zOB_X6 E) rfl rfl rfl rfl (Nat.le_of_ble_eq_true rfl) dX6_squares_29 ?_
    rintro _ M29 ⟨rfl, q29⟩
    show zJ E x 32 _ [] _
    refine z_aload_n hx 0 dX6_squares_32 rfl rfl ?_
    refine z_iload_n hx 2 dX6_squares_33 rfl rfl ?_
    refine z_callV hx (As := [.int (zdr up)]) (st := []) (k_X6_told hI M29 q29.1 q29.2.1 up) zw_813 zy_X6_told ⟨rfl, rfl⟩ (by decide) (zOB_X6 E) rfl rfl rfl rfl (Nat.le_of_ble_eq_true rfl) dX6_squares_34 ?_
    rintro _ M34 ⟨v34, rfl, q34⟩
    obtain ⟨rfl, q34⟩ := q34
    rw [q34]
    show zJ E x 37 _ [.long (Int64.ofInt (zTold (zSq (zGm (w, n, mm, cd, rd) d zall) (zunk w d)) (zdet (zunk w d) (zGm (w, n, mm, cd, rd) d zall)).natAbs up))] _
    exact rl _ _ _ _ rfl ⟨_, rfl, (by
        rw [zop_squares, if_neg hne]
        exact ⟨rfl, zMs_L hσ2 (zfm_tr hfl q29.2.2.2)⟩)⟩ dX6_squares_37
  · skip
    show zJ E x 21 _ [.int (nI 0)] _
    refine z_if_ne_n (tgt := 28) hx (by decide) dX6_squares_21 (by decide) (fun h => absurd h (by decide)) (fun _ => ?_)
    refine z_ldc2 hx zw_805 dX6_squares_24 ?_
    exact rl _ _ _ _ rfl ⟨_, rfl, ⟨by rw [zop_squares, if_pos hze], zMs_L hσ2 hfl⟩⟩ dX6_squares_27
set_option maxHeartbeats 4000000 in
set_option maxRecDepth 100000 in
theorem k_X6_rest {E : zE} (hI : zI E) (M : zM) {σ : zSt} (hσ : zMs M σ) (hk : zSk σ) (t : Int32) (d up : Bool) : zK E yX6_rest (.code yX6_rest cX6_rest 9 (some .long)) (zrm 5 121) [.ref (E.2.2.2 32), .int t, .int (zdr d), .int (zdr up)] M (zpl (fun v M2 => v = zop_rest σ.2.2.1 t d up ∧ zMs M2 σ ∧ zfN M M2)) := by
  refine zK_of hI (by decide) (Nat.le_of_ble_eq_true rfl) (fun x hx ri rz rl rv => ?_)
  show zJ E x 0 [(0, .ref (E.2.2.2 32)), (1, .int t), (2, .int (zdr d)), (3, .int (zdr up))] [] M
  obtain ⟨tx, len, ⟨w, n, mm, cd, rd⟩, as, s, sl, sd⟩ := σ
  have hσ2 := hσ
  obtain ⟨⟨hL, hT⟩, hW, hP, ⟨hs, hA⟩, hS, hsd⟩ := hσ
  have hv := hk.1
  have hw4 : 1 ≤ w ∧ w ≤ 4 := hv.1
  have hmm : mm ≤ 99 := hv.2.1
  have hn8 : n ≤ 8 := hv.2.2.1
  have hlen : len ≤ 90 := hk.2.1.1
  have hs14 : s ≤ 14 := hk.2.2.1
  have hL : M.1 32 2 = nI len := hL
  have hW : M.1 32 4 = nI w := hW
  have hs : M.1 32 11 = nI s := hs
  have hsd : M.2 32 14 = sd := hsd
  have hP0 : M.1 35 0 = nI mm := hP.1
  have hP1 : M.1 35 1 = nI n := hP.2.1
  have hP2 : ∀ t, t < n → M.1 35 (2 + t) = nI (cd t) ∧ M.1 35 (10 + t) = Int32.ofInt (rd t) := hP.2.2
  have hT : ∀ k, k < 90 → M.1 33 k = nI (tx k) := hT
  have hu := zunk_le hw4.2 d
  have hpn := zp2 hn8
  have hR0 : zPr (zputI M 32 0 (nI 0)) 35 (w, n, mm, cd, rd) := zPr_t hσ2 hk
  have hDD : 0 ≤ zdet (zunk w d) (zGm (w, n, mm, cd, rd) d zall) ∧ zdet (zunk w d) (zGm (w, n, mm, cd, rd) d zall) ≤ 600000 := zD_in (r := (w, n, mm, cd, rd)) hk.1 d zall
  have hwu : w ≤ (zunk w d) := by unfold zunk; split <;> omega
  refine z_aload_n hx 0 dX6_rest_0 rfl rfl ?_
  refine z_iconst hx (v := nI 0) dX6_rest_1 (by decide +kernel) ?_
  refine zp_X6_0 hx zw_576 dX6_rest_2 ?_
  refine z_aload_n hx 0 dX6_rest_5 rfl rfl ?_
  refine z_iload_n hx 1 dX6_rest_6 rfl rfl ?_
  refine z_callV hx (As := [.int t]) (st := []) (k_X6_noWeighing hI (zputI M 32 0 (nI 0)) (n := n) (zskI (by omega) hP1) hn8 t) zw_696 zy_X6_noWeighing ⟨rfl, rfl⟩ (by decide) (zOB_X6 E) rfl rfl rfl rfl (Nat.le_of_ble_eq_true rfl) dX6_rest_7 ?_
  rintro _ M7 ⟨v7, rfl, q7⟩
  obtain ⟨q7, hmm⟩ := q7
  rw [hmm]
  rcases q7 with ⟨j, hj, rfl, rfl⟩ | ⟨q7, rfl⟩
  · skip
    show zJ E x 10 _ [.int (nI 0)] _
    refine z_if_eq_n (tgt := 17) hx (by decide) dX6_rest_10 (by decide) (fun _ => ?_) (fun h => absurd h (by decide))
    refine z_aload_n hx 0 dX6_rest_17 rfl rfl ?_
    refine z_aload_n hx 0 dX6_rest_18 rfl rfl ?_
    refine zg_X6_7 hx zw_583 dX6_rest_19 ?_
    refine z_aload_n hx 0 dX6_rest_22 rfl rfl ?_
    refine zg_X6_7 hx zw_583 dX6_rest_23 ?_
    refine z_callS hx (As := [.ref (E.2.2.2 35)]) (st := [.ref (E.2.2.2 35), .ref (E.2.2.2 32)]) (k_X6_allOf hI (zputI M 32 0 (nI 0)) (p := 35) (n := n) zPc_35 hP1 hn8) zw_752 zy_X6_allOf ⟨rfl, rfl⟩ (by decide) rfl rfl (Nat.le_of_ble_eq_true rfl) dX6_rest_26 ?_
    rintro _ M26 ⟨v26, rfl, q26⟩
    obtain ⟨rfl, q26⟩ := q26
    rw [q26]
    show zJ E x 29 _ [.int (nI (2 ^ n - 1)), .ref (E.2.2.2 35), .ref (E.2.2.2 32)] _
    refine z_iload_n hx 2 dX6_rest_29 rfl rfl ?_
    refine z_callV hx (As := [.ref (E.2.2.2 35), .int (nI (2 ^ n - 1)), .int (zdr d)]) (st := []) (k_X6_isLaid hI (zputI M 32 0 (nI 0)) zPc_35 hR0 (s := 2 ^ n - 1) (by omega) d) zw_801 zy_X6_isLaid ⟨rfl, rfl⟩ (by decide) (zOB_X6 E) rfl rfl rfl rfl (Nat.le_of_ble_eq_true rfl) dX6_rest_30 ?_
    rintro _ M30 ⟨v30, rfl, q30⟩
    rw [show zGm (w, n, mm, cd, rd) d (zst (2 ^ n - 1)) = (zGm (w, n, mm, cd, rd) d zall) from zGm_al (r := (w, n, mm, cd, rd)) d hn8] at q30
    obtain ⟨q30, hGl, hfl⟩ := q30
    rcases q30 with ⟨hne, rfl⟩ | ⟨hze, rfl⟩
    · skip
      show zJ E x 33 _ [.int (nI 1)] _
      refine z_if_ne_n (tgt := 40) hx (by decide) dX6_rest_33 (by decide) (fun _ => ?_) (fun h => absurd h (by decide))
      have hVj := (hv.2.2.2 j hj).1
      have hVj : zcode w (cd j) := hVj
      have hyb : zab (zLn w mm d (cd j) (rd j) j (zunk w d)) 1099 := zLn_y (d := d) (t := j) (mm := mm) hVj (hv.2.2.2 j hj).2.1 (hv.2.2.2 j hj).2.2 hv.2.1
      refine z_aload_n hx 0 dX6_rest_40 rfl rfl ?_
      refine z_aload_n hx 0 dX6_rest_41 rfl rfl ?_
      refine z_callV hx (As := []) (st := [.ref (E.2.2.2 32)]) (k_X6_columns hI M30 hu hGl.1) zw_777 zy_X6_columns ⟨rfl, rfl⟩ (by decide) (zOB_X6 E) rfl rfl rfl rfl (Nat.le_of_ble_eq_true rfl) dX6_rest_42 ?_
      rintro _ M42 ⟨v42, rfl, q42⟩
      obtain ⟨rfl, q42⟩ := q42
      rw [q42]
      show zJ E x 45 _ [.int (nI (2 ^ zunk w d - 1)), .ref (E.2.2.2 32)] _
      refine z_bipush hx (v := (-9)) dX6_rest_45 rfl ?_
      refine z_callV hx (As := [.int (nI (2 ^ zunk w d - 1)), .int (-9)]) (st := []) (kc_mf hI M30 (r := (w, n, mm, cd, rd)) hk.1 hGl) zw_784 zy_X6_minor ⟨rfl, rfl⟩ (by decide) (zOB_X6 E) rfl rfl rfl rfl (Nat.le_of_ble_eq_true rfl) dX6_rest_47 ?_
      rintro _ M47 ⟨v47, rfl, q47⟩
      obtain ⟨rfl, q47⟩ := q47
      show zJ E x 50 _ [.long (Int64.ofInt (zdet (zunk w d) (zGm (w, n, mm, cd, rd) d zall)))] _
      have hG47 := (zGt_fr hGl (zfm_of (ks := fun _ => False) q47 (by omega)) (by omega) (by omega) (fun z => z) (fun z => z))
      have hR47 : zPr M47 35 (w, n, mm, cd, rd) := zPr_fr (zPr_fr hR0 hfl zPc_35 (by omega) (by omega)) (zfm_of (ks := fun _ => False) q47 (by omega)) zPc_35 (by omega) (fun z => z)
      refine z_lstore hx (lv2 := [(4, .long (Int64.ofInt (zdet (zunk w d) (zGm (w, n, mm, cd, rd) d zall)))), (0, .ref (E.2.2.2 32)), (1, .int (nI j)), (2, .int (zdr d)), (3, .int (zdr up))]) dX6_rest_50 (by decide) rfl ?_
      refine z_lload hx 0 dX6_rest_52 rfl ?_
      refine z_aload_n hx 1 dX6_rest_54 rfl rfl ?_
      refine zg_X6_7 hx zw_583 dX6_rest_55 ?_
      refine z_iload_n hx 2 dX6_rest_58 rfl rfl ?_
      refine z_aload_n hx 1 dX6_rest_59 rfl rfl ?_
      refine z_aload_n hx 1 dX6_rest_60 rfl rfl ?_
      refine zg_X6_7 hx zw_583 dX6_rest_61 ?_
      refine z_iconst hx (v := nI 2) dX6_rest_64 (by decide +kernel) ?_
      refine z_iload_n hx 2 dX6_rest_65 rfl rfl ?_
      refine z_iadd_n hx dX6_rest_66 ?_
      refine z_iald_n hx (zIA_35 E) (by omega) dX6_rest_67 ?_
      refine z_eqi (b := nI (cd j)) (hR47.2.1.2.2 j hj).1 ?_
      refine z_iconst hx (v := nI 0) dX6_rest_68 (by decide +kernel) ?_
      refine z_callV hx (As := [.int (nI (cd j)), .int (nI 0)]) (st := [.int (nI j), .ref (E.2.2.2 35), .long (Int64.ofInt (zdet (zunk w d) (zGm (w, n, mm, cd, rd) d zall)))]) (k_X6_panOf hI M47 (w := w) hR47.1 (by omega) (c := cd j) (k := 0) hVj (by omega)) zw_770 zy_X6_panOf ⟨rfl, rfl⟩ (by decide) (zOB_X6 E) rfl rfl rfl rfl (Nat.le_of_ble_eq_true rfl) dX6_rest_69 ?_
      rintro _ M69 ⟨v69, rfl, q69⟩
      obtain ⟨rfl, q69⟩ := q69
      rw [q69]
      have hpz : cd j / 10 ^ (w - 0) % 10 = cd j / 10 ^ w := zcode_top hVj
      rw [hpz]
      show zJ E x 72 _ [.int (Int32.ofInt (zsgd (cd j / 10 ^ w))), .int (nI j), .ref (E.2.2.2 35), .long (Int64.ofInt (zdet (zunk w d) (zGm (w, n, mm, cd, rd) d zall)))] _
      refine z_callS hx (As := [.ref (E.2.2.2 35), .int (nI j), .int (Int32.ofInt (zsgd (cd j / 10 ^ w)))]) (st := [.long (Int64.ofInt (zdet (zunk w d) (zGm (w, n, mm, cd, rd) d zall)))]) (k_X6_pureOf hI M47 zPc_35 hR47 (t := j) hj (zsgd (cd j / 10 ^ w))) zw_774 zy_X6_pureOf ⟨rfl, rfl⟩ (by decide) rfl rfl (Nat.le_of_ble_eq_true rfl) dX6_rest_72 ?_
      rintro _ M72 ⟨v72, rfl, q72⟩
      obtain ⟨rfl, q72⟩ := q72
      rw [q72]
      show zJ E x 75 _ [.int (Int32.ofInt (rd j - zsgd (cd j / 10 ^ w) * mm)), .long (Int64.ofInt (zdet (zunk w d) (zGm (w, n, mm, cd, rd) d zall)))] _
      refine z_i2l hx dX6_rest_75 ?_
      refine z_eql (b := Int64.ofInt (zLn w mm d (cd j) (rd j) j (zunk w d))) (by rw [← zLn_u w mm d (cd j) (rd j) j]; unfold zab at hyb; exact zi32 (by omega) (by omega)) ?_
      refine z_lmul hx dX6_rest_76 ?_
      refine z_lstore hx (lv2 := [(6, .long ((Int64.ofInt (zdet (zunk w d) (zGm (w, n, mm, cd, rd) d zall))) * (Int64.ofInt (zLn w mm d (cd j) (rd j) j (zunk w d))))), (4, .long (Int64.ofInt (zdet (zunk w d) (zGm (w, n, mm, cd, rd) d zall)))), (0, .ref (E.2.2.2 32)), (1, .int (nI j)), (2, .int (zdr d)), (3, .int (zdr up))]) dX6_rest_77 (by decide) rfl ?_
      refine z_aload_n hx 2 dX6_rest_79 rfl rfl ?_
      refine z_aload_n hx 2 dX6_rest_80 rfl rfl ?_
      refine zg_X6_7 hx zw_583 dX6_rest_81 ?_
      refine z_iload_n hx 3 dX6_rest_84 rfl rfl ?_
      refine z_iload_n hx 4 dX6_rest_85 rfl rfl ?_
      refine z_callV hx (As := [.ref (E.2.2.2 35), .int (nI j), .int (zdr d)]) (st := []) (k_X6_layColumns hI M47 zPc_35 hR47 (t := j) hj d) zw_766 zy_X6_layColumns ⟨rfl, rfl⟩ (by decide) (zOB_X6 E) rfl rfl rfl rfl (Nat.le_of_ble_eq_true rfl) dX6_rest_86 ?_
      rintro _ M86 ⟨rfl, q86⟩
      show zJ E x 89 _ [] _
      have hG86 := (zGt_fr hG47 (zfm_of (ks := fun _ => False) q86.2 (by omega)) (by omega) (by omega) (fun z => z) (fun z => z))
      refine z_iconst hx (v := nI 0) dX6_rest_89 (by decide +kernel) ?_
      refine z_istore hx (lv2 := [(8, .int (nI 0)), (6, .long ((Int64.ofInt (zdet (zunk w d) (zGm (w, n, mm, cd, rd) d zall))) * (Int64.ofInt (zLn w mm d (cd j) (rd j) j (zunk w d))))), (4, .long (Int64.ofInt (zdet (zunk w d) (zGm (w, n, mm, cd, rd) d zall)))), (0, .ref (E.2.2.2 32)), (1, .int (nI j)), (2, .int (zdr d)), (3, .int (zdr up))]) dX6_rest_90 (by decide) rfl ?_
      have loop92 : ∀ (fuel92 : Nat) (i : Nat) (N : zM) (_ : i ≤ (zunk w d)) (_ : zfr (fun c => c = 43 ∨ c = 44) M86 N), (zunk w d) - i < fuel92 → zJ E x 92 [(8, .int (nI i)), (6, .long (Int64.ofInt (zLn w mm d (cd j) (rd j) j (zunk w d) * zdet (zunk w d) (zGm (w, n, mm, cd, rd) d zall) - zS i (fun k => zLn w mm d (cd j) (rd j) j k * zVal (zGm (w, n, mm, cd, rd) d zall) (zunk w d) k)))), (4, .long (Int64.ofInt (zdet (zunk w d) (zGm (w, n, mm, cd, rd) d zall)))), (0, .ref (E.2.2.2 32)), (3, .int (zdr up))] [] N := by
        intro fuel92
        induction fuel92 with
        | zero =>
          intros; omega
        | succ fuel92 ih92 =>
          intro i N hi hNf hfuel92
          refine z_iload hx 0 dX6_rest_92 rfl ?_
          refine z_aload_n hx 3 dX6_rest_94 rfl rfl ?_
          refine zg_X6_15 hx zw_591 dX6_rest_95 ?_
          refine z_eqi (b := nI (zunk w d)) (zGt_fr hG86 (zfm_of (ks := fun _ => False) hNf (by omega)) (by omega) (by omega) (fun z => z) (fun z => z)).1 ?_
          refine z_icmp_ge_n (tgt := 131) hx (by omega) (by omega) dX6_rest_98 (by decide) (fun h98 => ?_) (fun h98 => ?_)
          · skip
            refine z_aload_n hx 3 dX6_rest_131 rfl rfl ?_
            refine z_lload hx 1 dX6_rest_132 rfl ?_
            refine z_lload hx 2 dX6_rest_134 rfl ?_
            rw [show i = (zunk w d) by omega]
            refine z_eql (b := Int64.ofInt (((zdet (zunk w d) (zGm (w, n, mm, cd, rd) d zall)).natAbs : Nat) : Int)) (zdna hDD.1) ?_
            have hrr : zrg (zLn w mm d (cd j) (rd j) j (zunk w d) * zdet (zunk w d) (zGm (w, n, mm, cd, rd) d zall) - zS (zunk w d) (fun k => zLn w mm d (cd j) (rd j) j k * zVal (zGm (w, n, mm, cd, rd) d zall) (zunk w d) k)) := by
              have h1 := zab_mul2 (by decide) (by decide) hyb (show zab (zdet (zunk w d) (zGm (w, n, mm, cd, rd) d zall)) 600000 by unfold zab; omega)
              have h2 := zS_ab (b := 7 * 1000000000000) (by decide) (n := (zunk w d)) (f := fun k => zLn w mm d (cd j) (rd j) j k * zVal (zGm (w, n, mm, cd, rd) d zall) (zunk w d) k) (fun k hk2 => zab_mul2 (by decide) (by decide) (zLn_ab hVj (by omega) k hk2) (zV_in (r := (w, n, mm, cd, rd)) hk.1 d zall hk2))
              have h3 : ((zunk w d : Nat) : Int) * (7 * 1000000000000) ≤ 5 * (7 * 1000000000000) := by omega
              unfold zab at h1 h2
              unfold zrg
              omega
            refine z_callV hx (As := [.long (Int64.ofInt (zLn w mm d (cd j) (rd j) j (zunk w d) * zdet (zunk w d) (zGm (w, n, mm, cd, rd) d zall) - zS (zunk w d) (fun k => zLn w mm d (cd j) (rd j) j k * zVal (zGm (w, n, mm, cd, rd) d zall) (zunk w d) k))), .long (Int64.ofInt (((zdet (zunk w d) (zGm (w, n, mm, cd, rd) d zall)).natAbs : Nat) : Int))]) (st := []) (k_X6_layFraction hI N (zLn w mm d (cd j) (rd j) j (zunk w d) * zdet (zunk w d) (zGm (w, n, mm, cd, rd) d zall) - zS (zunk w d) (fun k => zLn w mm d (cd j) (rd j) j k * zVal (zGm (w, n, mm, cd, rd) d zall) (zunk w d) k)) (zdet (zunk w d) (zGm (w, n, mm, cd, rd) d zall)).natAbs hrr (by omega) (by omega)) zw_806 zy_X6_layFraction ⟨rfl, rfl⟩ (by decide) (zOB_X6 E) rfl rfl rfl rfl (Nat.le_of_ble_eq_true rfl) dX6_rest_136 ?_
            rintro _ M136 ⟨rfl, q136⟩
            show zJ E x 139 _ [] _
            refine z_aload_n hx 3 dX6_rest_139 rfl rfl ?_
            refine z_iload_n hx 4 dX6_rest_140 rfl rfl ?_
            refine z_callV hx (As := [.int (zdr up)]) (st := []) (k_X6_told hI M136 q136.1 q136.2.1 up) zw_813 zy_X6_told ⟨rfl, rfl⟩ (by decide) (zOB_X6 E) rfl rfl rfl rfl (Nat.le_of_ble_eq_true rfl) dX6_rest_141 ?_
            rintro _ M141 ⟨v141, rfl, q141⟩
            obtain ⟨rfl, q141⟩ := q141
            rw [q141]
            show zJ E x 144 _ [.long (Int64.ofInt (zTold (zLn w mm d (cd j) (rd j) j (zunk w d) * zdet (zunk w d) (zGm (w, n, mm, cd, rd) d zall) - zS (zunk w d) (fun k => zLn w mm d (cd j) (rd j) j k * zVal (zGm (w, n, mm, cd, rd) d zall) (zunk w d) k)) (zdet (zunk w d) (zGm (w, n, mm, cd, rd) d zall)).natAbs up))] _
            exact rl _ _ _ _ rfl ⟨_, rfl, (by
                rw [zop_rest, if_neg (zin_n hj hn8), nI_clamp (by omega), if_neg hne]
                exact ⟨rfl, zMs_L hσ2 (zfm_tr hfl (zfm_tr (zfm_of (zfr_w q47 (fun c z => by omega)) (by omega)) (zfm_tr (zfm_of (zfr_w q86.2 (fun c z => by omega)) (by omega)) (zfm_tr (zfm_of (zfr_w hNf (fun c z => by omega)) (by omega)) (zfm_w q136.2.2 (fun c z => False.elim z) (fun k z => by omega))))))⟩)⟩ dX6_rest_144
          · skip
            refine z_lload hx 1 dX6_rest_101 rfl ?_
            refine z_aload_n hx 3 dX6_rest_103 rfl rfl ?_
            refine zg_X6_21 hx zw_597 dX6_rest_104 ?_
            refine z_iload hx 0 dX6_rest_107 rfl ?_
            refine z_iald_n hx (zIA_45 E) (by omega) dX6_rest_109 ?_
            refine z_eqi (b := Int32.ofInt (zLn w mm d (cd j) (rd j) j i)) (by rw [(hNf 45 (by omega)).1]; exact q86.1 i (by omega)) ?_
            refine z_i2l hx dX6_rest_110 ?_
            refine z_aload_n hx 3 dX6_rest_111 rfl rfl ?_
            refine z_aload_n hx 3 dX6_rest_112 rfl rfl ?_
            refine z_callV hx (As := []) (st := [.ref (E.2.2.2 32), .long ((Int32.ofInt (zLn w mm d (cd j) (rd j) j i)).toInt64), .long (Int64.ofInt (zLn w mm d (cd j) (rd j) j (zunk w d) * zdet (zunk w d) (zGm (w, n, mm, cd, rd) d zall) - zS i (fun k => zLn w mm d (cd j) (rd j) j k * zVal (zGm (w, n, mm, cd, rd) d zall) (zunk w d) k)))]) (k_X6_columns hI N hu (zGt_fr hG86 (zfm_of (ks := fun _ => False) hNf (by omega)) (by omega) (by omega) (fun z => z) (fun z => z)).1) zw_777 zy_X6_columns ⟨rfl, rfl⟩ (by decide) (zOB_X6 E) rfl rfl rfl rfl (Nat.le_of_ble_eq_true rfl) dX6_rest_113 ?_
            rintro _ M113 ⟨v113, rfl, q113⟩
            obtain ⟨rfl, q113⟩ := q113
            rw [q113]
            show zJ E x 116 _ [.int (nI (2 ^ zunk w d - 1)), .ref (E.2.2.2 32), .long ((Int32.ofInt (zLn w mm d (cd j) (rd j) j i)).toInt64), .long (Int64.ofInt (zLn w mm d (cd j) (rd j) j (zunk w d) * zdet (zunk w d) (zGm (w, n, mm, cd, rd) d zall) - zS i (fun k => zLn w mm d (cd j) (rd j) j k * zVal (zGm (w, n, mm, cd, rd) d zall) (zunk w d) k)))] _
            refine z_iload hx 0 dX6_rest_116 rfl ?_
            refine z_callV hx (As := [.int (nI (2 ^ zunk w d - 1)), .int (nI i)]) (st := [.long ((Int32.ofInt (zLn w mm d (cd j) (rd j) j i)).toInt64), .long (Int64.ofInt (zLn w mm d (cd j) (rd j) j (zunk w d) * zdet (zunk w d) (zGm (w, n, mm, cd, rd) d zall) - zS i (fun k => zLn w mm d (cd j) (rd j) j k * zVal (zGm (w, n, mm, cd, rd) d zall) (zunk w d) k)))]) (kc_mi hI N (r := (w, n, mm, cd, rd)) hk.1 (zGt_fr hG86 (zfm_of (ks := fun _ => False) hNf (by omega)) (by omega) (by omega) (fun z => z) (fun z => z)) (i := i) (by omega)) zw_784 zy_X6_minor ⟨rfl, rfl⟩ (by decide) (zOB_X6 E) rfl rfl rfl rfl (Nat.le_of_ble_eq_true rfl) dX6_rest_118 ?_
            rintro _ M118 ⟨v118, rfl, q118⟩
            obtain ⟨rfl, q118⟩ := q118
            show zJ E x 121 _ [.long (Int64.ofInt (zVal (zGm (w, n, mm, cd, rd) d zall) (zunk w d) i)), .long ((Int32.ofInt (zLn w mm d (cd j) (rd j) j i)).toInt64), .long (Int64.ofInt (zLn w mm d (cd j) (rd j) j (zunk w d) * zdet (zunk w d) (zGm (w, n, mm, cd, rd) d zall) - zS i (fun k => zLn w mm d (cd j) (rd j) j k * zVal (zGm (w, n, mm, cd, rd) d zall) (zunk w d) k)))] _
            refine z_lmul hx dX6_rest_121 ?_
            refine z_lsub hx dX6_rest_122 ?_
            refine z_lstore hx (lv2 := [(6, .long ((Int64.ofInt (zLn w mm d (cd j) (rd j) j (zunk w d) * zdet (zunk w d) (zGm (w, n, mm, cd, rd) d zall) - zS i (fun k => zLn w mm d (cd j) (rd j) j k * zVal (zGm (w, n, mm, cd, rd) d zall) (zunk w d) k))) - (((Int32.ofInt (zLn w mm d (cd j) (rd j) j i)).toInt64) * (Int64.ofInt (zVal (zGm (w, n, mm, cd, rd) d zall) (zunk w d) i))))), (8, .int (nI i)), (4, .long (Int64.ofInt (zdet (zunk w d) (zGm (w, n, mm, cd, rd) d zall)))), (0, .ref (E.2.2.2 32)), (3, .int (zdr up))]) dX6_rest_123 (by decide) rfl ?_
            refine z_iinc hx (w := nI (i + 1)) (lv2 := [(8, .int (nI (i + 1))), (6, .long ((Int64.ofInt (zLn w mm d (cd j) (rd j) j (zunk w d) * zdet (zunk w d) (zGm (w, n, mm, cd, rd) d zall) - zS i (fun k => zLn w mm d (cd j) (rd j) j k * zVal (zGm (w, n, mm, cd, rd) d zall) (zunk w d) k))) - (((Int32.ofInt (zLn w mm d (cd j) (rd j) j i)).toInt64) * (Int64.ofInt (zVal (zGm (w, n, mm, cd, rd) d zall) (zunk w d) i))))), (4, .long (Int64.ofInt (zdet (zunk w d) (zGm (w, n, mm, cd, rd) d zall)))), (0, .ref (E.2.2.2 32)), (3, .int (zdr up))]) 1 dX6_rest_125 rfl (z_inc _) (by decide) rfl ?_
            refine z_goto (tgt := 92) hx dX6_rest_128 (by decide) ?_
            exact z_to (ih92 (i + 1) M118 (by omega) (zfr_tr hNf q118) (by omega)) [0, 1, 2, 3, 4] (by rw [zlnw hVj (by omega) i (by omega), zI64_mul, zI64_sub, Int.sub_sub]; rfl) rfl
      exact z_to (loop92 _ 0 M86 (Nat.zero_le _) (zfr_rf _ _) (Nat.lt_succ_self _)) [0, 1, 2, 3, 6] (by rw [zI64_mul, Int.mul_comm]; simp only [zS, Int.sub_zero]; rfl) rfl
    · skip
      show zJ E x 33 _ [.int (nI 0)] _
      refine z_if_ne_n (tgt := 40) hx (by decide) dX6_rest_33 (by decide) (fun h => absurd h (by decide)) (fun _ => ?_)
      refine z_ldc2 hx zw_805 dX6_rest_36 ?_
      exact rl _ _ _ _ rfl ⟨_, rfl, ⟨by rw [zop_rest, if_neg (zin_n hj hn8), nI_clamp (by omega), if_pos hze], zMs_L hσ2 hfl⟩⟩ dX6_rest_39
  · skip
    show zJ E x 10 _ [.int (nI 1)] _
    refine z_if_eq_n (tgt := 17) hx (by decide) dX6_rest_10 (by decide) (fun h => absurd h (by decide)) (fun _ => ?_)
    refine z_ldc2 hx zw_800 dX6_rest_13 ?_
    exact rl _ _ _ _ rfl ⟨_, rfl, ⟨by rw [zop_rest, if_pos q7], zMs_t hσ2, zfN_t⟩⟩ dX6_rest_16
