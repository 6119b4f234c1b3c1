theorem zTold_0 {a : Int} {b : Nat} (hb : 0 < b) : zTold a b true = 0 ↔ a = 0 := by
  obtain ⟨g, p, h1, h2⟩ := ztd a hb
  constructor
  · intro e
    rw [e] at h1
    omega
  · intro e
    rw [e] at h1
    rcases Int.mul_eq_zero.mp h1 with z | z
    · rw [e]; exact z
    · omega
theorem zwb_no {q : Nat → Option (Int × Int)} {t : Nat} (h : q t = none) : zwb q (t + 1) = zwb q t := by rw [zwb, h]
theorem zwb_yes {q : Nat → Option (Int × Int)} {t : Nat} {a b : Int} (h : q t = some (a, b)) (h0 : a = 0) : zwb q (t + 1) = zwb q t ||| (nI 1 <<< (nI t &&& 31)) := by rw [zwb, h]; exact if_pos h0
theorem zwb_nay {q : Nat → Option (Int × Int)} {t : Nat} {a b : Int} (h : q t = some (a, b)) (h0 : ¬ a = 0) : zwb q (t + 1) = zwb q t ||| nI 0 := by
  rw [zwb, h]
  have e : zwb q t ||| nI 0 = zwb q t := Int32.or_zero
  rw [e]
  exact if_neg h0
set_option maxHeartbeats 4000000 in
set_option maxRecDepth 100000 in
theorem k_X6_wrong {E : zE} (hI : zI E) (M : zM) {σ : zSt} (hσ : zMs M σ) (hk : zSk σ) (d : Bool) : zK E yX6_wrong (.code yX6_wrong cX6_wrong 4 (some .int)) (zrm 5 121) [.ref (E.2.2.2 32), .int (zdr d)] M (zpi (fun v M2 => v = zop_wrong σ.2.2.1 d ∧ zMs M2 σ ∧ zfN M M2)) := by
  refine zK_of hI (by decide) (Nat.le_of_ble_eq_true rfl) (fun x hx ri rz rl rv => ?_)
  show zJ E x 0 [(0, .ref (E.2.2.2 32)), (1, .int (zdr d))] [] M
  obtain ⟨tx, len, ⟨w, n, mm, cd, rd⟩, as, s, sl, sd⟩ := σ
  have hσ2 := hσ
  obtain ⟨⟨hL, hT⟩, hW, hP, ⟨hs, hA⟩, hS, hsd⟩ := hσ
  have hv := hk.1
  have hw4 : 1 ≤ w ∧ w ≤ 4 := hv.1
  have hmm : mm ≤ 99 := hv.2.1
  have hn8 : n ≤ 8 := hv.2.2.1
  have hlen : len ≤ 90 := hk.2.1.1
  have hs14 : s ≤ 14 := hk.2.2.1
  have hL : M.1 32 2 = nI len := hL
  have hW : M.1 32 4 = nI w := hW
  have hs : M.1 32 11 = nI s := hs
  have hsd : M.2 32 14 = sd := hsd
  have hP0 : M.1 35 0 = nI mm := hP.1
  have hP1 : M.1 35 1 = nI n := hP.2.1
  have hP2 : ∀ t, t < n → M.1 35 (2 + t) = nI (cd t) ∧ M.1 35 (10 + t) = Int32.ofInt (rd t) := hP.2.2
  have hT : ∀ k, k < 90 → M.1 33 k = nI (tx k) := hT
  have hR0 : zPr (zputI M 32 0 (nI 0)) 35 (w, n, mm, cd, rd) := zPr_t hσ2 hk
  have hu := zunk_le hw4.2 d
  have hpn := zp2 hn8
  refine z_aload_n hx 0 dX6_wrong_0 rfl rfl ?_
  refine z_iconst hx (v := nI 0) dX6_wrong_1 (by decide +kernel) ?_
  refine zp_X6_0 hx zw_576 dX6_wrong_2 ?_
  refine z_iconst hx (v := nI 0) dX6_wrong_5 (by decide +kernel) ?_
  refine z_istore_n hx (lv2 := [(2, .int (nI 0)), (0, .ref (E.2.2.2 32)), (1, .int (zdr d))]) dX6_wrong_6 rfl (by decide) rfl ?_
  refine z_iconst hx (v := nI 0) dX6_wrong_7 (by decide +kernel) ?_
  refine z_istore_n hx (lv2 := [(3, .int (nI 0)), (2, .int (nI 0)), (0, .ref (E.2.2.2 32)), (1, .int (zdr d))]) dX6_wrong_8 rfl (by decide) rfl ?_
  have loop9 : ∀ (fuel9 : Nat) (t : Nat) (N : zM) (_ : t ≤ n) (_ : zfL (zputI M 32 0 (nI 0)) N), n - t < fuel9 → zJ E x 9 [(3, .int (nI t)), (2, .int (zwb (zqd (w, n, mm, cd, rd) d) t)), (0, .ref (E.2.2.2 32)), (1, .int (zdr d))] [] N := by
    intro fuel9
    induction fuel9 with
    | zero =>
      intros; omega
    | succ fuel9 ih9 =>
      intro t N ht hNf hfuel9
      refine z_iload_n hx 0 dX6_wrong_9 rfl rfl ?_
      refine z_aload_n hx 2 dX6_wrong_10 rfl rfl ?_
      refine zg_X6_7 hx zw_583 dX6_wrong_11 ?_
      refine z_iconst hx (v := nI 1) dX6_wrong_14 (by decide +kernel) ?_
      refine z_iald_n hx (zIA_35 E) (by omega) dX6_wrong_15 ?_
      refine z_eqi (b := nI n) (by rw [(zfm_c hNf (by omega) (by omega)).1]; exact hP1) ?_
      refine z_icmp_ge_n (tgt := 73) hx (by omega) (by omega) dX6_wrong_16 (by decide) (fun h16 => ?_) (fun h16 => ?_)
      · skip
        refine z_iload_n hx 1 dX6_wrong_73 rfl rfl ?_
        exact ri _ _ _ _ rfl ⟨_, rfl, ⟨by rw [show t = n by omega]; rfl, zMs_L hσ2 hNf⟩⟩ dX6_wrong_74
      · skip
        have hsl : 2 ^ n - 1 - 2 ^ t < 256 := Nat.lt_of_le_of_lt (Nat.sub_le _ _) (by omega)
        refine z_aload_n hx 2 dX6_wrong_19 rfl rfl ?_
        refine z_aload_n hx 2 dX6_wrong_20 rfl rfl ?_
        refine zg_X6_7 hx zw_583 dX6_wrong_21 ?_
        refine z_aload_n hx 2 dX6_wrong_24 rfl rfl ?_
        refine zg_X6_7 hx zw_583 dX6_wrong_25 ?_
        refine z_callS hx (As := [.ref (E.2.2.2 35)]) (st := [.ref (E.2.2.2 35), .ref (E.2.2.2 32)]) (k_X6_allOf hI N (p := 35) (n := n) zPc_35 (by rw [(zfm_c hNf (by omega) (by omega)).1]; exact hP1) hn8) zw_752 zy_X6_allOf ⟨rfl, rfl⟩ (by decide) rfl rfl (Nat.le_of_ble_eq_true rfl) dX6_wrong_28 ?_
        rintro _ M28 ⟨v28, rfl, q28⟩
        obtain ⟨rfl, q28⟩ := q28
        rw [q28]
        show zJ E x 31 _ [.int (nI (2 ^ n - 1)), .ref (E.2.2.2 35), .ref (E.2.2.2 32)] _
        refine z_iconst hx (v := nI 1) dX6_wrong_31 (by decide +kernel) ?_
        refine z_iload_n hx 0 dX6_wrong_32 rfl rfl ?_
        refine z_ishl hx dX6_wrong_33 ?_
        refine z_iconst hx (v := (-1)) dX6_wrong_34 rfl ?_
        refine z_ixor hx dX6_wrong_35 ?_
        refine z_iand hx dX6_wrong_36 ?_
        refine z_eqi (b := nI (2 ^ n - 1 - 2 ^ t)) (zmsk8 n (by omega) t (by omega)) ?_
        refine z_iload_n hx 3 dX6_wrong_37 rfl rfl ?_
        refine z_callV hx (As := [.ref (E.2.2.2 35), .int (nI (2 ^ n - 1 - 2 ^ t)), .int (zdr d)]) (st := []) (k_X6_isLaid hI N zPc_35 (zPr_fr hR0 hNf zPc_35 (by omega) (by omega)) (s := 2 ^ n - 1 - 2 ^ t) hsl d) zw_801 zy_X6_isLaid ⟨rfl, rfl⟩ (by decide) (zOB_X6 E) rfl rfl rfl rfl (Nat.le_of_ble_eq_true rfl) dX6_wrong_38 ?_
        rintro _ M38 ⟨v38, rfl, q38⟩
        rw [show zGm (w, n, mm, cd, rd) d (zst (2 ^ n - 1 - 2 ^ t)) = (zGm (w, n, mm, cd, rd) d (zbut t)) from zGm_bt (r := (w, n, mm, cd, rd)) d hn8 h16] at q38
        obtain ⟨q38, hGl, hfl⟩ := q38
        rcases q38 with ⟨hne, rfl⟩ | ⟨hze, rfl⟩
        · skip
          show zJ E x 41 _ [.int (nI 1)] _
          have hpos0 : 0 ≤ (zdet (zunk w d) (zGm (w, n, mm, cd, rd) d (zbut t))) := (zD_in (r := (w, n, mm, cd, rd)) hk.1 d (zbut t)).1
          have hpos : 0 < (zdet (zunk w d) (zGm (w, n, mm, cd, rd) d (zbut t))) := by omega
          have hq : zqd (w, n, mm, cd, rd) d t = some ((zSq (zGm (w, n, mm, cd, rd) d (zbut t)) (zunk w d)), (zdet (zunk w d) (zGm (w, n, mm, cd, rd) d (zbut t)))) := if_pos hpos
          have hg := zqd_g (r := (w, n, mm, cd, rd)) hk.1 d hq
          refine z_if_eq_n (tgt := 67) hx (by decide) dX6_wrong_41 (by decide) (fun h => absurd h (by decide)) (fun _ => ?_)
          refine z_aload_n hx 2 dX6_wrong_44 rfl rfl ?_
          refine z_callV hx (As := []) (st := []) (k_X6_laySquares hI M38 (r := (w, n, mm, cd, rd)) hk.1 hGl hne) zw_837 zy_X6_laySquares ⟨rfl, rfl⟩ (by decide) (zOB_X6 E) rfl rfl rfl rfl (Nat.le_of_ble_eq_true rfl) dX6_wrong_45 ?_
          rintro _ M45 ⟨rfl, q45⟩
          show zJ E x 48 _ [] _
          refine z_iload_n hx 1 dX6_wrong_48 rfl rfl ?_
          refine z_aload_n hx 2 dX6_wrong_49 rfl rfl ?_
          refine zg_X6_22 hx zw_598 dX6_wrong_50 ?_
          refine z_eql (b := Int64.ofInt (zTold (zSq (zGm (w, n, mm, cd, rd) d (zbut t)) (zunk w d)) (zdet (zunk w d) (zGm (w, n, mm, cd, rd) d (zbut t))).natAbs true)) q45.1 ?_
          refine z_lconst hx (v := 0) dX6_wrong_53 rfl ?_
          refine z_lcmp hx dX6_wrong_54 ?_
          refine z_if_ne (tgt := 64) hx dX6_wrong_55 (by decide) (fun h55 => ?_) (fun h55 => ?_)
          · skip
            have hz0 : ¬ (zSq (zGm (w, n, mm, cd, rd) d (zbut t)) (zunk w d)) = 0 := fun z => zcmpn0 h55 (by rw [(zTold_0 (by omega)).mpr z]; decide +kernel)
            have hnew := zwb_nay hq hz0
            refine z_iconst hx (v := nI 0) dX6_wrong_64 (by decide +kernel) ?_
            refine z_ior hx dX6_wrong_65 ?_
            refine z_istore_n hx (lv2 := [(2, .int ((zwb (zqd (w, n, mm, cd, rd) d) t) ||| (nI 0))), (3, .int (nI t)), (0, .ref (E.2.2.2 32)), (1, .int (zdr d))]) dX6_wrong_66 rfl (by decide) rfl ?_
            refine z_iinc hx (w := nI (t + 1)) (lv2 := [(3, .int (nI (t + 1))), (2, .int ((zwb (zqd (w, n, mm, cd, rd) d) t) ||| (nI 0))), (0, .ref (E.2.2.2 32)), (1, .int (zdr d))]) 1 dX6_wrong_67 rfl (z_inc _) (by decide) rfl ?_
            refine z_goto (tgt := 9) hx dX6_wrong_70 (by decide) ?_
            exact z_to (ih9 (t + 1) M45 (by omega) (zfm_tr hNf (zfm_tr hfl q45.2.2.2)) (by omega)) [0, 1, 2, 3] (by rw [hnew]; rfl) rfl
          · skip
            have hz0 : (zSq (zGm (w, n, mm, cd, rd) d (zbut t)) (zunk w d)) = 0 := (zTold_0 (by omega)).mp ((zeq64 (zab_rg (zTold_u (by omega) hg.1) (by decide)) ⟨by decide, by decide⟩).mp ((zcmp0 h55).trans (by decide +kernel)))
            have hnew := zwb_yes hq hz0
            refine z_iconst hx (v := nI 1) dX6_wrong_58 (by decide +kernel) ?_
            refine z_iload_n hx 0 dX6_wrong_59 rfl rfl ?_
            refine z_ishl hx dX6_wrong_60 ?_
            refine z_goto (tgt := 65) hx dX6_wrong_61 (by decide) ?_
            refine z_ior hx dX6_wrong_65 ?_
            refine z_istore_n hx (lv2 := [(2, .int ((zwb (zqd (w, n, mm, cd, rd) d) t) ||| ((nI 1) <<< ((nI t) &&& 31)))), (3, .int (nI t)), (0, .ref (E.2.2.2 32)), (1, .int (zdr d))]) dX6_wrong_66 rfl (by decide) rfl ?_
            refine z_iinc hx (w := nI (t + 1)) (lv2 := [(3, .int (nI (t + 1))), (2, .int ((zwb (zqd (w, n, mm, cd, rd) d) t) ||| ((nI 1) <<< ((nI t) &&& 31)))), (0, .ref (E.2.2.2 32)), (1, .int (zdr d))]) 1 dX6_wrong_67 rfl (z_inc _) (by decide) rfl ?_
            refine z_goto (tgt := 9) hx dX6_wrong_70 (by decide) ?_
            exact z_to (ih9 (t + 1) M45 (by omega) (zfm_tr hNf (zfm_tr hfl q45.2.2.2)) (by omega)) [0, 1, 2, 3] (by rw [hnew]; rfl) rfl
        · skip
          show zJ E x 41 _ [.int (nI 0)] _
          have hqn : zqd (w, n, mm, cd, rd) d t = none := if_neg (by show ¬ 0 < (zdet (zunk w d) (zGm (w, n, mm, cd, rd) d (zbut t))); omega)
          refine z_if_eq_n (tgt := 67) hx (by decide) dX6_wrong_41 (by decide) (fun _ => ?_) (fun h => absurd h (by decide))
          refine z_iinc hx (w := nI (t + 1)) (lv2 := [(3, .int (nI (t + 1))), (2, .int (zwb (zqd (w, n, mm, cd, rd) d) t)), (0, .ref (E.2.2.2 32)), (1, .int (zdr d))]) 0 dX6_wrong_67 rfl (z_inc _) (by decide) rfl ?_
          refine z_goto (tgt := 9) hx dX6_wrong_70 (by decide) ?_
          exact z_to (ih9 (t + 1) M38 (by omega) (zfm_tr hNf hfl) (by omega)) [0, 1, 2, 3] (by rw [zwb_no hqn]; rfl) rfl
  exact z_to (loop9 _ 0 (zputI M 32 0 (nI 0)) (Nat.zero_le _) (zfm_rf _ _ _) (Nat.lt_succ_self _)) [0, 1, 2, 3] rfl rfl
abbrev zfT (M M2 : zM) : Prop := zfm (fun c => c = 36 ∨ 41 ≤ c ∧ c ≤ 45) (fun k => k = 15 ∨ k = 18 ∨ k = 22 ∨ k = 23) M M2
theorem zMs_T {M N : zM} {σ : zSt} (h : zMs M σ) (hf : zfT (zputI M 32 0 (nI 0)) N) : zMs N σ ∧ zfN M N := ⟨zMs_fr (zMs_t h) hf (by omega) (by omega) (by omega) (by omega) (by omega) (by omega) (by omega) (by omega) (by omega), zfr_tr zfN_t (zfr_w hf.1 (fun c z => by omega))⟩
theorem zfT_L {M N : zM} (h : zfL M N) : zfT M N := zfm_w h (fun c z => Or.inr z) (fun k z => z)
theorem zgood_o {s : Int32 × Int × Int} (h : zgood s) : zgdo (some (0, s.2.1, s.2.2)) := ⟨by have := h.1; unfold zab at *; show -6000000000000 ≤ s.2.1 ∧ s.2.1 ≤ 6000000000000; omega, h.2.1, h.2.2⟩
set_option maxHeartbeats 4000000 in
set_option maxRecDepth 100000 in
theorem k_X6_better {E : zE} (hI : zI E) (M : zM) {σ : zSt} (hσ : zMs M σ) (hk : zSk σ)  : zK E yX6_better (.code yX6_better cX6_better 8 (some .int)) (zrm 5 121) [.ref (E.2.2.2 32)] M (zpi (fun v M2 => v = zop_better σ.2.2.1  ∧ zMs M2 σ ∧ zfN M M2)) := by
  refine zK_of hI (by decide) (Nat.le_of_ble_eq_true rfl) (fun x hx ri rz rl rv => ?_)
  show zJ E x 0 [(0, .ref (E.2.2.2 32))] [] M
  obtain ⟨tx, len, ⟨w, n, mm, cd, rd⟩, as, s, sl, sd⟩ := σ
  have hσ2 := hσ
  obtain ⟨⟨hL, hT⟩, hW, hP, ⟨hs, hA⟩, hS, hsd⟩ := hσ
  have hv := hk.1
  have hw4 : 1 ≤ w ∧ w ≤ 4 := hv.1
  have hmm : mm ≤ 99 := hv.2.1
  have hn8 : n ≤ 8 := hv.2.2.1
  have hlen : len ≤ 90 := hk.2.1.1
  have hs14 : s ≤ 14 := hk.2.2.1
  have hL : M.1 32 2 = nI len := hL
  have hW : M.1 32 4 = nI w := hW
  have hs : M.1 32 11 = nI s := hs
  have hsd : M.2 32 14 = sd := hsd
  have hP0 : M.1 35 0 = nI mm := hP.1
  have hP1 : M.1 35 1 = nI n := hP.2.1
  have hP2 : ∀ t, t < n → M.1 35 (2 + t) = nI (cd t) ∧ M.1 35 (10 + t) = Int32.ofInt (rd t) := hP.2.2
  have hT : ∀ k, k < 90 → M.1 33 k = nI (tx k) := hT
  have hR0 : zPr (zputI M 32 0 (nI 0)) 35 (w, n, mm, cd, rd) := zPr_t hσ2 hk
  have hu := zunk_le hw4.2 true
  have hpn := zp2 hn8
  refine z_aload_n hx 0 dX6_better_0 rfl rfl ?_
  refine z_iconst hx (v := nI 0) dX6_better_1 (by decide +kernel) ?_
  refine zp_X6_0 hx zw_576 dX6_better_2 ?_
  refine z_aload_n hx 0 dX6_better_5 rfl rfl ?_
  refine z_aload_n hx 0 dX6_better_6 rfl rfl ?_
  refine zg_X6_7 hx zw_583 dX6_better_7 ?_
  refine z_aload_n hx 0 dX6_better_10 rfl rfl ?_
  refine zg_X6_7 hx zw_583 dX6_better_11 ?_
  refine z_callS hx (As := [.ref (E.2.2.2 35)]) (st := [.ref (E.2.2.2 35), .ref (E.2.2.2 32)]) (k_X6_allOf hI (zputI M 32 0 (nI 0)) (p := 35) (n := n) zPc_35 hP1 hn8) zw_752 zy_X6_allOf ⟨rfl, rfl⟩ (by decide) rfl rfl (Nat.le_of_ble_eq_true rfl) dX6_better_14 ?_
  rintro _ M14 ⟨v14, rfl, q14⟩
  obtain ⟨rfl, q14⟩ := q14
  rw [q14]
  show zJ E x 17 _ [.int (nI (2 ^ n - 1)), .ref (E.2.2.2 35), .ref (E.2.2.2 32)] _
  refine z_iconst hx (v := nI 1) dX6_better_17 (by decide +kernel) ?_
  refine z_callV hx (As := [.ref (E.2.2.2 35), .int (nI (2 ^ n - 1)), .int (nI 1)]) (st := []) (k_X6_isLaid hI (zputI M 32 0 (nI 0)) zPc_35 hR0 (s := 2 ^ n - 1) (by omega) true) zw_801 zy_X6_isLaid ⟨rfl, rfl⟩ (by decide) (zOB_X6 E) rfl rfl rfl rfl (Nat.le_of_ble_eq_true rfl) dX6_better_18 ?_
  rintro _ M18 ⟨v18, rfl, q18⟩
  rw [show zGm (w, n, mm, cd, rd) true (zst (2 ^ n - 1)) = (zGm (w, n, mm, cd, rd) true zall) from zGm_al (r := (w, n, mm, cd, rd)) true hn8] at q18
  obtain ⟨q18, hGl, hfl⟩ := q18
  rcases q18 with ⟨hne, rfl⟩ | ⟨hze, rfl⟩
  · skip
    show zJ E x 21 _ [.int (nI 1)] _
    have hpos0 : 0 ≤ (zdet (zunk w true) (zGm (w, n, mm, cd, rd) true zall)) := (zD_in (r := (w, n, mm, cd, rd)) hk.1 true zall).1
    have hqt : zqt (w, n, mm, cd, rd) true = some ((zS w (fun k => zMin (zGm (w, n, mm, cd, rd) true zall) (zunk w true) k)), (zdet (zunk w true) (zGm (w, n, mm, cd, rd) true zall))) := if_pos (by show 0 < (zdet (zunk w true) (zGm (w, n, mm, cd, rd) true zall)); omega)
    have hgq := zqt_some zThy hk.1 hqt
    refine z_if_ne_n (tgt := 27) hx (by decide) dX6_better_21 (by decide) (fun _ => ?_) (fun h => absurd h (by decide))
    refine z_aload_n hx 0 dX6_better_27 rfl rfl ?_
    refine z_callV hx (As := []) (st := []) (k_X6_layTotal hI M18 (r := (w, n, mm, cd, rd)) hk.1 hGl hne ((hfl.2 4 (by omega)).1.trans (zskK (by omega) hW))) zw_825 zy_X6_layTotal ⟨rfl, rfl⟩ (by decide) (zOB_X6 E) rfl rfl rfl rfl (Nat.le_of_ble_eq_true rfl) dX6_better_28 ?_
    rintro _ M28 ⟨rfl, q28⟩
    show zJ E x 31 _ [] _
    refine z_aload_n hx 0 dX6_better_31 rfl rfl ?_
    refine zg_X6_22 hx zw_598 dX6_better_32 ?_
    refine z_eql (b := Int64.ofInt (zTold (zS w (fun k => zMin (zGm (w, n, mm, cd, rd) true zall) (zunk w true) k)) (zdet (zunk w true) (zGm (w, n, mm, cd, rd) true zall)).natAbs true)) q28.1 ?_
    refine z_lstore_n hx (lv2 := [(1, .long (Int64.ofInt (zTold (zS w (fun k => zMin (zGm (w, n, mm, cd, rd) true zall) (zunk w true) k)) (zdet (zunk w true) (zGm (w, n, mm, cd, rd) true zall)).natAbs true))), (0, .ref (E.2.2.2 32))]) dX6_better_35 rfl (by decide) rfl ?_
    refine z_aload_n hx 1 dX6_better_36 rfl rfl ?_
    refine zg_X6_23 hx zw_599 dX6_better_37 ?_
    refine z_eql (b := Int64.ofInt (zTold (zS w (fun k => zMin (zGm (w, n, mm, cd, rd) true zall) (zunk w true) k)) (zdet (zunk w true) (zGm (w, n, mm, cd, rd) true zall)).natAbs false)) q28.2.1 ?_
    refine z_lstore_n hx (lv2 := [(3, .long (Int64.ofInt (zTold (zS w (fun k => zMin (zGm (w, n, mm, cd, rd) true zall) (zunk w true) k)) (zdet (zunk w true) (zGm (w, n, mm, cd, rd) true zall)).natAbs false))), (1, .long (Int64.ofInt (zTold (zS w (fun k => zMin (zGm (w, n, mm, cd, rd) true zall) (zunk w true) k)) (zdet (zunk w true) (zGm (w, n, mm, cd, rd) true zall)).natAbs true))), (0, .ref (E.2.2.2 32))]) dX6_better_40 rfl (by decide) rfl ?_
    refine z_bipush hx (v := (-9)) dX6_better_41 rfl ?_
    refine z_istore hx (lv2 := [(5, .int (-9)), (3, .long (Int64.ofInt (zTold (zS w (fun k => zMin (zGm (w, n, mm, cd, rd) true zall) (zunk w true) k)) (zdet (zunk w true) (zGm (w, n, mm, cd, rd) true zall)).natAbs false))), (1, .long (Int64.ofInt (zTold (zS w (fun k => zMin (zGm (w, n, mm, cd, rd) true zall) (zunk w true) k)) (zdet (zunk w true) (zGm (w, n, mm, cd, rd) true zall)).natAbs true))), (0, .ref (E.2.2.2 32))]) dX6_better_43 (by decide) rfl ?_
    refine z_iconst hx (v := nI 0) dX6_better_45 (by decide +kernel) ?_
    refine z_istore hx (lv2 := [(6, .int (nI 0)), (5, .int (-9)), (3, .long (Int64.ofInt (zTold (zS w (fun k => zMin (zGm (w, n, mm, cd, rd) true zall) (zunk w true) k)) (zdet (zunk w true) (zGm (w, n, mm, cd, rd) true zall)).natAbs false))), (1, .long (Int64.ofInt (zTold (zS w (fun k => zMin (zGm (w, n, mm, cd, rd) true zall) (zunk w true) k)) (zdet (zunk w true) (zGm (w, n, mm, cd, rd) true zall)).natAbs true))), (0, .ref (E.2.2.2 32))]) dX6_better_46 (by decide) rfl ?_
    obtain ⟨x0, hx0⟩ : ∃ x0, x0 = (zS w (fun k => zMin (zGm (w, n, mm, cd, rd) true zall) (zunk w true) k)) := ⟨_, rfl⟩
    obtain ⟨y0, hy0⟩ : ∃ y0, y0 = (zdet (zunk w true) (zGm (w, n, mm, cd, rd) true zall)) := ⟨_, rfl⟩
    have hg0 : zgood (-9, x0, y0) := by rw [hx0, hy0]; exact hgq
    have loop48 : ∀ (fuel48 : Nat) (i : Nat) (N : zM) (_ : i ≤ n) (_ : zfT (zputI M 32 0 (nI 0)) N) (_ : zgood (zbout (w, n, mm, cd, rd) (-9, x0, y0) i)), n - i < fuel48 → zJ E x 48 [(6, .int (nI i)), (5, .int ((zbout (w, n, mm, cd, rd) (-9, x0, y0) i).1)), (3, .long (Int64.ofInt (zTold (zbout (w, n, mm, cd, rd) (-9, x0, y0) i).2.1 (zbout (w, n, mm, cd, rd) (-9, x0, y0) i).2.2.natAbs false))), (1, .long (Int64.ofInt (zTold (zbout (w, n, mm, cd, rd) (-9, x0, y0) i).2.1 (zbout (w, n, mm, cd, rd) (-9, x0, y0) i).2.2.natAbs true))), (0, .ref (E.2.2.2 32))] [] N := by
      intro fuel48
      induction fuel48 with
      | zero =>
        intros; omega
      | succ fuel48 ih48 =>
        intro i N hi hNf hNg hfuel48
        refine z_iload hx 0 dX6_better_48 rfl ?_
        refine z_aload_n hx 4 dX6_better_50 rfl rfl ?_
        refine zg_X6_7 hx zw_583 dX6_better_51 ?_
        refine z_iconst hx (v := nI 1) dX6_better_54 (by decide +kernel) ?_
        refine z_iald_n hx (zIA_35 E) (by omega) dX6_better_55 ?_
        refine z_eqi (b := nI n) (by rw [(zfm_c hNf (by omega) (by omega)).1]; exact hP1) ?_
        refine z_icmp_ge_n (tgt := 169) hx (by omega) (by omega) dX6_better_56 (by decide) (fun h56 => ?_) (fun h56 => ?_)
        · skip
          refine z_iload hx 1 dX6_better_169 rfl ?_
          exact ri _ _ _ _ rfl ⟨_, rfl, ⟨by rw [zop_better, hqt, ← hx0, ← hy0, show i = n by omega], zMs_T hσ2 hNf⟩⟩ dX6_better_171
        · skip
          refine z_iload hx 0 dX6_better_59 rfl ?_
          refine z_iconst hx (v := nI 1) dX6_better_61 (by decide +kernel) ?_
          refine z_iadd_n hx dX6_better_62 ?_
          refine z_istore hx (lv2 := [(7, .int (nI (i + 1))), (6, .int (nI i)), (5, .int ((zbout (w, n, mm, cd, rd) (-9, x0, y0) i).1)), (3, .long (Int64.ofInt (zTold (zbout (w, n, mm, cd, rd) (-9, x0, y0) i).2.1 (zbout (w, n, mm, cd, rd) (-9, x0, y0) i).2.2.natAbs false))), (1, .long (Int64.ofInt (zTold (zbout (w, n, mm, cd, rd) (-9, x0, y0) i).2.1 (zbout (w, n, mm, cd, rd) (-9, x0, y0) i).2.2.natAbs true))), (0, .ref (E.2.2.2 32))]) dX6_better_63 (by decide) rfl ?_
          have loop65 : ∀ (fuel65 : Nat) (m : Nat) (K : zM) (_ : i + 1 + m ≤ n) (_ : zfT (zputI M 32 0 (nI 0)) K) (_ : zgood (zbin (w, n, mm, cd, rd) (zbout (w, n, mm, cd, rd) (-9, x0, y0) i) i m)), n - m < fuel65 → zJ E x 65 [(7, .int (nI (i + 1 + m))), (6, .int (nI i)), (5, .int ((zbin (w, n, mm, cd, rd) (zbout (w, n, mm, cd, rd) (-9, x0, y0) i) i m).1)), (3, .long (Int64.ofInt (zTold (zbin (w, n, mm, cd, rd) (zbout (w, n, mm, cd, rd) (-9, x0, y0) i) i m).2.1 (zbin (w, n, mm, cd, rd) (zbout (w, n, mm, cd, rd) (-9, x0, y0) i) i m).2.2.natAbs false))), (1, .long (Int64.ofInt (zTold (zbin (w, n, mm, cd, rd) (zbout (w, n, mm, cd, rd) (-9, x0, y0) i) i m).2.1 (zbin (w, n, mm, cd, rd) (zbout (w, n, mm, cd, rd) (-9, x0, y0) i) i m).2.2.natAbs true))), (0, .ref (E.2.2.2 32))] [] K := by
            intro fuel65
            induction fuel65 with
            | zero =>
              intros; omega
            | succ fuel65 ih65 =>
              intro m K hm hKf hKg hfuel65
              refine z_iload hx 0 dX6_better_65 rfl ?_
              refine z_aload_n hx 5 dX6_better_67 rfl rfl ?_
              refine zg_X6_7 hx zw_583 dX6_better_68 ?_
              refine z_iconst hx (v := nI 1) dX6_better_71 (by decide +kernel) ?_
              refine z_iald_n hx (zIA_35 E) (by omega) dX6_better_72 ?_
              refine z_eqi (b := nI n) (by rw [(zfm_c hKf (by omega) (by omega)).1]; exact hP1) ?_
              refine z_icmp_ge_n (tgt := 163) hx (by omega) (by omega) dX6_better_73 (by decide) (fun h73 => ?_) (fun h73 => ?_)
              · skip
                refine z_iinc hx (w := nI (i + 1)) (lv2 := [(6, .int (nI (i + 1))), (7, .int (nI (i + 1 + m))), (5, .int ((zbin (w, n, mm, cd, rd) (zbout (w, n, mm, cd, rd) (-9, x0, y0) i) i m).1)), (3, .long (Int64.ofInt (zTold (zbin (w, n, mm, cd, rd) (zbout (w, n, mm, cd, rd) (-9, x0, y0) i) i m).2.1 (zbin (w, n, mm, cd, rd) (zbout (w, n, mm, cd, rd) (-9, x0, y0) i) i m).2.2.natAbs false))), (1, .long (Int64.ofInt (zTold (zbin (w, n, mm, cd, rd) (zbout (w, n, mm, cd, rd) (-9, x0, y0) i) i m).2.1 (zbin (w, n, mm, cd, rd) (zbout (w, n, mm, cd, rd) (-9, x0, y0) i) i m).2.2.natAbs true))), (0, .ref (E.2.2.2 32))]) 1 dX6_better_163 rfl (z_inc _) (by decide) rfl ?_
                refine z_goto (tgt := 48) hx dX6_better_166 (by decide) ?_
                exact z_to (ih48 (i + 1) K (by omega) hKf (by rw [show (zbout (w, n, mm, cd, rd) (-9, x0, y0) (i + 1)) = (zbin (w, n, mm, cd, rd) (zbout (w, n, mm, cd, rd) (-9, x0, y0) i) i m) from (by rw [zbout, show n - (i + 1) = m by omega])]; exact hKg) (by omega)) [0, 2, 3, 4, 5] (by rw [show (zbout (w, n, mm, cd, rd) (-9, x0, y0) (i + 1)) = (zbin (w, n, mm, cd, rd) (zbout (w, n, mm, cd, rd) (-9, x0, y0) i) i m) from (by rw [zbout, show n - (i + 1) = m by omega])]; rfl) rfl
              · skip
                refine z_aload_n hx 5 dX6_better_76 rfl rfl ?_
                refine zg_X6_7 hx zw_583 dX6_better_77 ?_
                refine z_aload_n hx 5 dX6_better_80 rfl rfl ?_
                refine zg_X6_8 hx zw_584 dX6_better_81 ?_
                refine z_callS hx (As := [.ref (E.2.2.2 35), .ref (E.2.2.2 36)]) (st := []) (k_X6_copy hI K (p := 35) (q := 36) zPc_35 zPc_36 (by omega)) zw_689 zy_X6_copy ⟨rfl, rfl⟩ (by decide) rfl rfl (Nat.le_of_ble_eq_true rfl) dX6_better_84 ?_
                rintro _ M84 ⟨rfl, q84⟩
                have hPs : zPf (M84.1 36) (w, n, mm, cd, rd) := zPf_cg hP hn8 (fun j hj => (q84.1 j hj).trans (by rw [(zfm_c hKf (by omega) (by omega)).1]; rfl))
                show zJ E x 87 _ [] _
                refine z_aload_n hx 5 dX6_better_87 rfl rfl ?_
                refine zg_X6_8 hx zw_584 dX6_better_88 ?_
                refine z_iload hx 1 dX6_better_91 rfl ?_
                refine z_iload hx 0 dX6_better_93 rfl ?_
                refine z_callS hx (As := [.ref (E.2.2.2 36), .int (nI i), .int (nI (i + 1 + m))]) (st := []) (k_X6_swapOn hI M84 zPc_36 (i := i) (j := i + 1 + m) hPs hn8 (by omega) (by omega) (by omega)) zw_732 zy_X6_swapOn ⟨rfl, rfl⟩ (by decide) rfl rfl (Nat.le_of_ble_eq_true rfl) dX6_better_95 ?_
                rintro _ M95 ⟨rfl, q95⟩
                show zJ E x 98 _ [] _
                have hvs : zVr (zswp (w, n, mm, cd, rd) i (i + 1 + m)) := zVr_swp (r := (w, n, mm, cd, rd)) hk.1 (by show i < n; omega) (by show i + 1 + m < n; omega)
                have hRs : zPr M95 36 (zswp (w, n, mm, cd, rd) i (i + 1 + m)) := ⟨by rw [(q95.2 32 (by omega)).1, (q84.2 32 (by omega)).1]; exact (hKf.2 4 (by omega)).1.trans (zskK (by omega) hW), q95.1, hvs⟩
                refine z_aload_n hx 5 dX6_better_98 rfl rfl ?_
                refine z_aload_n hx 5 dX6_better_99 rfl rfl ?_
                refine zg_X6_8 hx zw_584 dX6_better_100 ?_
                refine z_aload_n hx 5 dX6_better_103 rfl rfl ?_
                refine zg_X6_8 hx zw_584 dX6_better_104 ?_
                refine z_callS hx (As := [.ref (E.2.2.2 36)]) (st := [.ref (E.2.2.2 36), .ref (E.2.2.2 32)]) (k_X6_allOf hI M95 (p := 36) (n := n) zPc_36 q95.1.2.1 hn8) zw_752 zy_X6_allOf ⟨rfl, rfl⟩ (by decide) rfl rfl (Nat.le_of_ble_eq_true rfl) dX6_better_107 ?_
                rintro _ M107 ⟨v107, rfl, q107⟩
                obtain ⟨rfl, q107⟩ := q107
                rw [q107]
                show zJ E x 110 _ [.int (nI (2 ^ n - 1)), .ref (E.2.2.2 36), .ref (E.2.2.2 32)] _
                refine z_iconst hx (v := nI 1) dX6_better_110 (by decide +kernel) ?_
                refine z_callV hx (As := [.ref (E.2.2.2 36), .int (nI (2 ^ n - 1)), .int (nI 1)]) (st := []) (k_X6_isLaid hI M95 zPc_36 hRs (s := 2 ^ n - 1) (by omega) true) zw_801 zy_X6_isLaid ⟨rfl, rfl⟩ (by decide) (zOB_X6 E) rfl rfl rfl rfl (Nat.le_of_ble_eq_true rfl) dX6_better_111 ?_
                rintro _ M111 ⟨v111, rfl, q111⟩
                have q111 : ((¬ zdet (zunk w true) (zGm (zswp (w, n, mm, cd, rd) i (i + 1 + m)) true (zst (2 ^ n - 1))) = 0 ∧ v111 = nI 1) ∨ (zdet (zunk w true) (zGm (zswp (w, n, mm, cd, rd) i (i + 1 + m)) true (zst (2 ^ n - 1))) = 0 ∧ v111 = nI 0)) ∧ zGt M111 (zunk w true) (zGm (zswp (w, n, mm, cd, rd) i (i + 1 + m)) true (zst (2 ^ n - 1))) ∧ zfL M95 M111 := q111
                rw [show zGm (zswp (w, n, mm, cd, rd) i (i + 1 + m)) true (zst (2 ^ n - 1)) = (zGm (zswp (w, n, mm, cd, rd) i (i + 1 + m)) true zall) from zGm_al (r := (zswp (w, n, mm, cd, rd) i (i + 1 + m))) true hn8] at q111
                obtain ⟨q111, hGl2, hfl2⟩ := q111
                rcases q111 with ⟨hne2, rfl⟩ | ⟨hze2, rfl⟩
                · skip
                  show zJ E x 114 _ [.int (nI 1)] _
                  have hp1 : 0 ≤ (zdet (zunk w true) (zGm (zswp (w, n, mm, cd, rd) i (i + 1 + m)) true zall)) := (zD_in (r := (zswp (w, n, mm, cd, rd) i (i + 1 + m))) hvs true zall).1
                  have hqt1 : zqt (zswp (w, n, mm, cd, rd) i (i + 1 + m)) true = some ((zS w (fun k => zMin (zGm (zswp (w, n, mm, cd, rd) i (i + 1 + m)) true zall) (zunk w true) k)), (zdet (zunk w true) (zGm (zswp (w, n, mm, cd, rd) i (i + 1 + m)) true zall))) := if_pos (by show 0 < (zdet (zunk w true) (zGm (zswp (w, n, mm, cd, rd) i (i + 1 + m)) true zall)); omega)
                  have hg1 := zqt_some zThy hvs hqt1
                  refine z_if_eq_n (tgt := 157) hx (by decide) dX6_better_114 (by decide) (fun h => absurd h (by decide)) (fun _ => ?_)
                  refine z_aload_n hx 5 dX6_better_117 rfl rfl ?_
                  refine z_callV hx (As := []) (st := []) (k_X6_layTotal hI M111 (r := (zswp (w, n, mm, cd, rd) i (i + 1 + m))) hvs hGl2 hne2 ((hfl2.2 4 (by omega)).1.trans hRs.1)) zw_825 zy_X6_layTotal ⟨rfl, rfl⟩ (by decide) (zOB_X6 E) rfl rfl rfl rfl (Nat.le_of_ble_eq_true rfl) dX6_better_118 ?_
                  rintro _ M118 ⟨rfl, q118⟩
                  show zJ E x 121 _ [] _
                  refine z_aload_n hx 5 dX6_better_121 rfl rfl ?_
                  refine zg_X6_22 hx zw_598 dX6_better_122 ?_
                  refine z_eql (b := Int64.ofInt (zTold (zS w (fun k => zMin (zGm (zswp (w, n, mm, cd, rd) i (i + 1 + m)) true zall) (zunk w true) k)) (zdet (zunk w true) (zGm (zswp (w, n, mm, cd, rd) i (i + 1 + m)) true zall)).natAbs true)) q118.1 ?_
                  refine z_lload_n hx 3 dX6_better_125 rfl rfl ?_
                  refine z_lmul hx dX6_better_126 ?_
                  refine z_lload_n hx 4 dX6_better_127 rfl rfl ?_
                  refine z_aload_n hx 5 dX6_better_128 rfl rfl ?_
                  refine zg_X6_23 hx zw_599 dX6_better_129 ?_
                  refine z_eql (b := Int64.ofInt (zTold (zS w (fun k => zMin (zGm (zswp (w, n, mm, cd, rd) i (i + 1 + m)) true zall) (zunk w true) k)) (zdet (zunk w true) (zGm (zswp (w, n, mm, cd, rd) i (i + 1 + m)) true zall)).natAbs false)) q118.2.1 ?_
                  refine z_lmul hx dX6_better_132 ?_
                  refine z_lcmp hx dX6_better_133 ?_
                  refine z_if_ge (tgt := 157) hx dX6_better_134 (by decide) (fun h134 => ?_) (fun h134 => ?_)
                  · skip
                    have hcm := zlt_red (o := some (0, (zbin (w, n, mm, cd, rd) (zbout (w, n, mm, cd, rd) (-9, x0, y0) i) i m).2.1, (zbin (w, n, mm, cd, rd) (zbout (w, n, mm, cd, rd) (-9, x0, y0) i) i m).2.2)) (a1 := (zS w (fun k => zMin (zGm (zswp (w, n, mm, cd, rd) i (i + 1 + m)) true zall) (zunk w true) k))) (b1 := (zdet (zunk w true) (zGm (zswp (w, n, mm, cd, rd) i (i + 1 + m)) true zall))) (by have := hg1.1; unfold zab at *; omega) hg1.2.1 hg1.2.2 (zgood_o hKg)
                    have hst : (zbin (w, n, mm, cd, rd) (zbout (w, n, mm, cd, rd) (-9, x0, y0) i) i (m + 1)) = (zbin (w, n, mm, cd, rd) (zbout (w, n, mm, cd, rd) (-9, x0, y0) i) i m) := by rw [zbin, hqt1]; exact if_neg (fun z => zcmpge h134 (hcm.mpr z))
                    refine z_iinc hx (w := nI (i + 1 + m + 1)) (lv2 := [(7, .int (nI (i + 1 + m + 1))), (6, .int (nI i)), (5, .int ((zbin (w, n, mm, cd, rd) (zbout (w, n, mm, cd, rd) (-9, x0, y0) i) i m).1)), (3, .long (Int64.ofInt (zTold (zbin (w, n, mm, cd, rd) (zbout (w, n, mm, cd, rd) (-9, x0, y0) i) i m).2.1 (zbin (w, n, mm, cd, rd) (zbout (w, n, mm, cd, rd) (-9, x0, y0) i) i m).2.2.natAbs false))), (1, .long (Int64.ofInt (zTold (zbin (w, n, mm, cd, rd) (zbout (w, n, mm, cd, rd) (-9, x0, y0) i) i m).2.1 (zbin (w, n, mm, cd, rd) (zbout (w, n, mm, cd, rd) (-9, x0, y0) i) i m).2.2.natAbs true))), (0, .ref (E.2.2.2 32))]) 0 dX6_better_157 rfl (z_inc _) (by decide) rfl ?_
                    refine z_goto (tgt := 65) hx dX6_better_160 (by decide) ?_
                    exact z_to (ih65 (m + 1) M118 (by omega) (zfm_tr hKf (zfm_tr (zfm_of (zfr_w q84.2 (fun c z => Or.inl z)) (by omega)) (zfm_tr (zfm_of (zfr_w q95.2 (fun c z => Or.inl z)) (by omega)) (zfm_tr (zfT_L hfl2) (zfT_L q118.2.2.2))))) (zbs1_good hKg (fun x1 y1 e => zqt_some zThy hvs e)) (by omega)) [0, 1, 2, 3, 4, 5] (by rw [hst]; rfl) rfl
                  · skip
                    have hcm := zlt_red (o := some (0, (zbin (w, n, mm, cd, rd) (zbout (w, n, mm, cd, rd) (-9, x0, y0) i) i m).2.1, (zbin (w, n, mm, cd, rd) (zbout (w, n, mm, cd, rd) (-9, x0, y0) i) i m).2.2)) (a1 := (zS w (fun k => zMin (zGm (zswp (w, n, mm, cd, rd) i (i + 1 + m)) true zall) (zunk w true) k))) (b1 := (zdet (zunk w true) (zGm (zswp (w, n, mm, cd, rd) i (i + 1 + m)) true zall))) (by have := hg1.1; unfold zab at *; omega) hg1.2.1 hg1.2.2 (zgood_o hKg)
                    have hst : (zbin (w, n, mm, cd, rd) (zbout (w, n, mm, cd, rd) (-9, x0, y0) i) i (m + 1)) = (nI (10 * i + (i + 1 + m)), (zS w (fun k => zMin (zGm (zswp (w, n, mm, cd, rd) i (i + 1 + m)) true zall) (zunk w true) k)), (zdet (zunk w true) (zGm (zswp (w, n, mm, cd, rd) i (i + 1 + m)) true zall))) := by rw [zbin, hqt1]; exact if_pos (hcm.mp (zcmpnge h134))
                    refine z_bipush hx (v := nI 10) dX6_better_137 (by decide +kernel) ?_
                    refine z_iload hx 1 dX6_better_139 rfl ?_
                    refine z_imul_n hx dX6_better_141 ?_
                    refine z_iload hx 0 dX6_better_142 rfl ?_
                    refine z_iadd_n hx dX6_better_144 ?_
                    refine z_istore hx (lv2 := [(5, .int (nI ((10 * i) + (i + 1 + m)))), (7, .int (nI (i + 1 + m))), (6, .int (nI i)), (3, .long (Int64.ofInt (zTold (zbin (w, n, mm, cd, rd) (zbout (w, n, mm, cd, rd) (-9, x0, y0) i) i m).2.1 (zbin (w, n, mm, cd, rd) (zbout (w, n, mm, cd, rd) (-9, x0, y0) i) i m).2.2.natAbs false))), (1, .long (Int64.ofInt (zTold (zbin (w, n, mm, cd, rd) (zbout (w, n, mm, cd, rd) (-9, x0, y0) i) i m).2.1 (zbin (w, n, mm, cd, rd) (zbout (w, n, mm, cd, rd) (-9, x0, y0) i) i m).2.2.natAbs true))), (0, .ref (E.2.2.2 32))]) dX6_better_145 (by decide) rfl ?_
                    refine z_aload_n hx 5 dX6_better_147 rfl rfl ?_
                    refine zg_X6_22 hx zw_598 dX6_better_148 ?_
                    refine z_eql (b := Int64.ofInt (zTold (zS w (fun k => zMin (zGm (zswp (w, n, mm, cd, rd) i (i + 1 + m)) true zall) (zunk w true) k)) (zdet (zunk w true) (zGm (zswp (w, n, mm, cd, rd) i (i + 1 + m)) true zall)).natAbs true)) q118.1 ?_
                    refine z_lstore_n hx (lv2 := [(1, .long (Int64.ofInt (zTold (zS w (fun k => zMin (zGm (zswp (w, n, mm, cd, rd) i (i + 1 + m)) true zall) (zunk w true) k)) (zdet (zunk w true) (zGm (zswp (w, n, mm, cd, rd) i (i + 1 + m)) true zall)).natAbs true))), (5, .int (nI ((10 * i) + (i + 1 + m)))), (7, .int (nI (i + 1 + m))), (6, .int (nI i)), (3, .long (Int64.ofInt (zTold (zbin (w, n, mm, cd, rd) (zbout (w, n, mm, cd, rd) (-9, x0, y0) i) i m).2.1 (zbin (w, n, mm, cd, rd) (zbout (w, n, mm, cd, rd) (-9, x0, y0) i) i m).2.2.natAbs false))), (0, .ref (E.2.2.2 32))]) dX6_better_151 rfl (by decide) rfl ?_
                    refine z_aload_n hx 5 dX6_better_152 rfl rfl ?_
                    refine zg_X6_23 hx zw_599 dX6_better_153 ?_
                    refine z_eql (b := Int64.ofInt (zTold (zS w (fun k => zMin (zGm (zswp (w, n, mm, cd, rd) i (i + 1 + m)) true zall) (zunk w true) k)) (zdet (zunk w true) (zGm (zswp (w, n, mm, cd, rd) i (i + 1 + m)) true zall)).natAbs false)) q118.2.1 ?_
                    refine z_lstore_n hx (lv2 := [(3, .long (Int64.ofInt (zTold (zS w (fun k => zMin (zGm (zswp (w, n, mm, cd, rd) i (i + 1 + m)) true zall) (zunk w true) k)) (zdet (zunk w true) (zGm (zswp (w, n, mm, cd, rd) i (i + 1 + m)) true zall)).natAbs false))), (1, .long (Int64.ofInt (zTold (zS w (fun k => zMin (zGm (zswp (w, n, mm, cd, rd) i (i + 1 + m)) true zall) (zunk w true) k)) (zdet (zunk w true) (zGm (zswp (w, n, mm, cd, rd) i (i + 1 + m)) true zall)).natAbs true))), (5, .int (nI ((10 * i) + (i + 1 + m)))), (7, .int (nI (i + 1 + m))), (6, .int (nI i)), (0, .ref (E.2.2.2 32))]) dX6_better_156 rfl (by decide) rfl ?_
                    refine z_iinc hx (w := nI (i + 1 + m + 1)) (lv2 := [(7, .int (nI (i + 1 + m + 1))), (3, .long (Int64.ofInt (zTold (zS w (fun k => zMin (zGm (zswp (w, n, mm, cd, rd) i (i + 1 + m)) true zall) (zunk w true) k)) (zdet (zunk w true) (zGm (zswp (w, n, mm, cd, rd) i (i + 1 + m)) true zall)).natAbs false))), (1, .long (Int64.ofInt (zTold (zS w (fun k => zMin (zGm (zswp (w, n, mm, cd, rd) i (i + 1 + m)) true zall) (zunk w true) k)) (zdet (zunk w true) (zGm (zswp (w, n, mm, cd, rd) i (i + 1 + m)) true zall)).natAbs true))), (5, .int (nI ((10 * i) + (i + 1 + m)))), (6, .int (nI i)), (0, .ref (E.2.2.2 32))]) 3 dX6_better_157 rfl (z_inc _) (by decide) rfl ?_
                    refine z_goto (tgt := 65) hx dX6_better_160 (by decide) ?_
                    exact z_to (ih65 (m + 1) M118 (by omega) (zfm_tr hKf (zfm_tr (zfm_of (zfr_w q84.2 (fun c z => Or.inl z)) (by omega)) (zfm_tr (zfm_of (zfr_w q95.2 (fun c z => Or.inl z)) (by omega)) (zfm_tr (zfT_L hfl2) (zfT_L q118.2.2.2))))) (zbs1_good hKg (fun x1 y1 e => zqt_some zThy hvs e)) (by omega)) [0, 4, 3, 1, 2, 5] (by rw [hst]; rfl) rfl
                · skip
                  show zJ E x 114 _ [.int (nI 0)] _
                  have hqt1 : zqt (zswp (w, n, mm, cd, rd) i (i + 1 + m)) true = none := if_neg (by show ¬ 0 < (zdet (zunk w true) (zGm (zswp (w, n, mm, cd, rd) i (i + 1 + m)) true zall)); omega)
                  have hst : (zbin (w, n, mm, cd, rd) (zbout (w, n, mm, cd, rd) (-9, x0, y0) i) i (m + 1)) = (zbin (w, n, mm, cd, rd) (zbout (w, n, mm, cd, rd) (-9, x0, y0) i) i m) := by rw [zbin, hqt1]; rfl
                  refine z_if_eq_n (tgt := 157) hx (by decide) dX6_better_114 (by decide) (fun _ => ?_) (fun h => absurd h (by decide))
                  refine z_iinc hx (w := nI (i + 1 + m + 1)) (lv2 := [(7, .int (nI (i + 1 + m + 1))), (6, .int (nI i)), (5, .int ((zbin (w, n, mm, cd, rd) (zbout (w, n, mm, cd, rd) (-9, x0, y0) i) i m).1)), (3, .long (Int64.ofInt (zTold (zbin (w, n, mm, cd, rd) (zbout (w, n, mm, cd, rd) (-9, x0, y0) i) i m).2.1 (zbin (w, n, mm, cd, rd) (zbout (w, n, mm, cd, rd) (-9, x0, y0) i) i m).2.2.natAbs false))), (1, .long (Int64.ofInt (zTold (zbin (w, n, mm, cd, rd) (zbout (w, n, mm, cd, rd) (-9, x0, y0) i) i m).2.1 (zbin (w, n, mm, cd, rd) (zbout (w, n, mm, cd, rd) (-9, x0, y0) i) i m).2.2.natAbs true))), (0, .ref (E.2.2.2 32))]) 0 dX6_better_157 rfl (z_inc _) (by decide) rfl ?_
                  refine z_goto (tgt := 65) hx dX6_better_160 (by decide) ?_
                  exact z_to (ih65 (m + 1) M111 (by omega) (zfm_tr hKf (zfm_tr (zfm_of (zfr_w q84.2 (fun c z => Or.inl z)) (by omega)) (zfm_tr (zfm_of (zfr_w q95.2 (fun c z => Or.inl z)) (by omega)) (zfT_L hfl2)))) (zbs1_good hKg (fun x1 y1 e => zqt_some zThy hvs e)) (by omega)) [0, 1, 2, 3, 4, 5] (by rw [hst]; rfl) rfl
          exact z_to (loop65 _ 0 N (by omega) hNf hNg (Nat.lt_succ_self _)) [0, 1, 2, 3, 4, 5] rfl rfl
    exact z_to (loop48 _ 0 M28 (Nat.zero_le _) (zfm_tr (zfT_L hfl) (zfT_L q28.2.2.2)) hg0 (Nat.lt_succ_self _)) [0, 1, 2, 3, 4] (by rw [← hx0, ← hy0]; rfl) rfl
  · skip
    show zJ E x 21 _ [.int (nI 0)] _
    refine z_if_ne_n (tgt := 27) hx (by decide) dX6_better_21 (by decide) (fun h => absurd h (by decide)) (fun _ => ?_)
    refine z_bipush hx (v := (-3)) dX6_better_24 rfl ?_
    exact ri _ _ _ _ rfl ⟨_, rfl, ⟨by rw [zop_better, show zqt (w, n, mm, cd, rd) true = none from if_neg (by show ¬ 0 < (zdet (zunk w true) (zGm (w, n, mm, cd, rd) true zall)); omega)], zMs_L hσ2 hfl⟩⟩ dX6_better_26
