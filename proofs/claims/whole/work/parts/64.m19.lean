abbrev zfD (M M2 : zM) : Prop := zfm (fun c => c = 37 ∨ 41 ≤ c ∧ c ≤ 45) (fun k => k = 14 ∨ k = 15 ∨ k = 18 ∨ k = 22 ∨ k = 23) M M2
theorem zfD_L {M N : zM} (h : zfL M N) : zfD M N := zfm_w h (fun c z => Or.inr z) (fun k z => Or.inr z)
theorem zin_120 {x : Int32} : ((1 : Int64) ≤ x.toInt64 ∧ x.toInt64 ≤ 20) ↔ ¬ (x < nI 1 ∨ ¬ x ≤ nI 20) := by
  have e0 : (1 : Int64).toInt = 1 := by decide +kernel
  have e1 : (20 : Int64).toInt = 20 := by decide +kernel
  rw [Int64.le_iff_toInt_le, Int64.le_iff_toInt_le, Int32.toInt_toInt64, Int32.lt_iff_toInt_lt, Int32.le_iff_toInt_le, nI_toInt (by decide), nI_toInt (by decide), e0, e1]
  omega
theorem zPf_rd {f : Nat → Int32} {w n mm : Nat} {cd : Nat → Nat} {rd rd2 : Nat → Int} (h : zPf f (w, n, mm, cd, rd)) (e : ∀ t, t < n → rd2 t = rd t) : zPf f (w, n, mm, cd, rd2) := ⟨h.1, h.2.1, fun t ht => ⟨(h.2.2 t ht).1, by
  show f (10 + t) = Int32.ofInt (rd2 t)
  rw [e t ht]
  exact (h.2.2 t ht).2⟩⟩
theorem zpd_step {K : zM} {w n mm t : Nat} {cd : Nat → Nat} {rd : Nat → Int} {b v : Int32} (h : zPf (K.1 37) (w, n, mm, cd, fun k => if k < t then rd k + zmo b k else rd k)) (hn : n ≤ 8) (hv : v = Int32.ofInt (rd t + zmo b t)) : zPf ((zputI K 37 (10 + t) v).1 37) (w, n, mm, cd, fun k => if k < t + 1 then rd k + zmo b k else rd k) := by
  rw [hv]
  refine zPf_rd (zPf_read (j := t) (z := rd t + zmo b t) h hn) (fun k hk => ?_)
  unfold va_up
  by_cases e : k = t
  · subst e
    rw [if_pos (Nat.lt_succ_self _), if_pos rfl]
  · rw [if_neg e]
    dsimp only
    by_cases q : k < t
    · rw [if_pos q, if_pos (by omega)]
    · rw [if_neg q, if_neg (by omega)]
theorem zVr_draw {r : zRo} (h : zVr r) (h9 : ∀ t, t < r.2.1 → -999 ≤ r.2.2.2.2 t ∧ r.2.2.2.2 t ≤ 999) (b : Int32) : zVr (zdraw r b) := ⟨h.1, h.2.1, h.2.2.1, fun t ht => ⟨(h.2.2.2 t ht).1, by
  have h1 := h9 t ht
  have h2 := zmo_ab b t
  show -1000 ≤ r.2.2.2.2 t + zmo b t ∧ r.2.2.2.2 t + zmo b t ≤ 1000
  omega⟩⟩
set_option maxHeartbeats 4000000 in
set_option maxRecDepth 100000 in
theorem k_X6_drawn {E : zE} (hI : zI E) (M : zM) {σ : zSt} (hσ : zMs M σ) (hk : zSk σ) (h9 : ∀ t, t < σ.2.2.1.2.1 → -999 ≤ σ.2.2.1.2.2.2.2 t ∧ σ.2.2.1.2.2.2.2 t ≤ 999) (m : Int32) : zK E yX6_drawn (.code yX6_drawn cX6_drawn 8 (some .int)) (zrm 6 149) [.ref (E.2.2.2 32), .int m] M (zpi (fun v M2 => v = (zop_drawn σ m).1 ∧ zMs M2 (zop_drawn σ m).2 ∧ zfN M M2)) := by
  refine zK_of hI (by decide) (Nat.le_of_ble_eq_true rfl) (fun x hx ri rz rl rv => ?_)
  show zJ E x 0 [(0, .ref (E.2.2.2 32)), (1, .int m)] [] M
  obtain ⟨tx, len, ⟨w, n, mm, cd, rd⟩, as, s, sl, sd⟩ := σ
  have hσ2 := hσ
  obtain ⟨⟨hL, hT⟩, hW, hP, ⟨hs, hA⟩, hS, hsd⟩ := hσ
  have hv := hk.1
  have hw4 : 1 ≤ w ∧ w ≤ 4 := hv.1
  have hmm : mm ≤ 99 := hv.2.1
  have hn8 : n ≤ 8 := hv.2.2.1
  have hlen : len ≤ 90 := hk.2.1.1
  have hs14 : s ≤ 14 := hk.2.2.1
  have hL : M.1 32 2 = nI len := hL
  have hW : M.1 32 4 = nI w := hW
  have hs : M.1 32 11 = nI s := hs
  have hsd : M.2 32 14 = sd := hsd
  have hP0 : M.1 35 0 = nI mm := hP.1
  have hP1 : M.1 35 1 = nI n := hP.2.1
  have hP2 : ∀ t, t < n → M.1 35 (2 + t) = nI (cd t) ∧ M.1 35 (10 + t) = Int32.ofInt (rd t) := hP.2.2
  have hT : ∀ k, k < 90 → M.1 33 k = nI (tx k) := hT
  have hR0 : zPr (zputI M 32 0 (nI 0)) 35 (w, n, mm, cd, rd) := zPr_t hσ2 hk
  refine z_aload_n hx 0 dX6_drawn_0 rfl rfl ?_
  refine z_iconst hx (v := nI 0) dX6_drawn_1 (by decide +kernel) ?_
  refine zp_X6_0 hx zw_576 dX6_drawn_2 ?_
  refine z_iload_n hx 1 dX6_drawn_5 rfl rfl ?_
  refine z_i2l hx dX6_drawn_6 ?_
  refine z_lconst hx (v := 1) dX6_drawn_7 rfl ?_
  refine z_ldc2 hx zw_898 dX6_drawn_8 ?_
  refine z_callS hx (As := [.long m.toInt64, .long 1, .long (20)]) (st := []) (k_X6_in hI (zputI M 32 0 (nI 0)) m.toInt64 1 (20)) zw_654 zy_X6_in ⟨rfl, rfl⟩ (by decide) rfl rfl (Nat.le_of_ble_eq_true rfl) dX6_drawn_11 ?_
  rintro _ M11 ⟨v11, rfl, q11⟩
  obtain ⟨q11, hmm⟩ := q11
  rw [hmm]
  rw [zin_120] at q11
  rcases q11 with ⟨q11, rfl⟩ | ⟨q11, rfl⟩
  · skip
    show zJ E x 14 _ [.int (nI 1)] _
    obtain ⟨k, hk1, hk20, rfl⟩ := zr120 (znot q11).1 (Classical.not_not.mp (znot q11).2)
    refine z_if_ne_n (tgt := 20) hx (by decide) dX6_drawn_14 (by decide) (fun _ => ?_) (fun h => absurd h (by decide))
    refine z_aload_n hx 0 dX6_drawn_20 rfl rfl ?_
    refine z_aload_n hx 0 dX6_drawn_21 rfl rfl ?_
    refine zg_X6_7 hx zw_583 dX6_drawn_22 ?_
    refine z_iconst hx (v := nI 0) dX6_drawn_25 (by decide +kernel) ?_
    refine z_callV hx (As := [.ref (E.2.2.2 35), .int (nI 0)]) (st := []) (k_X6_doubtfulOf hI (zputI M 32 0 (nI 0)) zPc_35 hR0 false) zw_853 zy_X6_doubtfulOf ⟨rfl, rfl⟩ (by decide) (zOB_X6 E) rfl rfl rfl rfl (Nat.le_of_ble_eq_true rfl) dX6_drawn_26 ?_
    rintro _ M26 ⟨v26, rfl, q26⟩
    have q26v := q26.1
    subst q26v
    show zJ E x 29 _ [.int (zop_doubtful (w, n, mm, cd, rd) false)] _
    refine z_istore_n hx (lv2 := [(2, .int (zop_doubtful (w, n, mm, cd, rd) false)), (0, .ref (E.2.2.2 32)), (1, .int (nI k))]) dX6_drawn_29 rfl (by decide) rfl ?_
    refine z_iconst hx (v := nI 0) dX6_drawn_30 (by decide +kernel) ?_
    refine z_istore_n hx (lv2 := [(3, .int (nI 0)), (2, .int (zop_doubtful (w, n, mm, cd, rd) false)), (0, .ref (E.2.2.2 32)), (1, .int (nI k))]) dX6_drawn_31 rfl (by decide) rfl ?_
    refine z_iconst hx (v := nI 0) dX6_drawn_32 (by decide +kernel) ?_
    refine z_istore hx (lv2 := [(4, .int (nI 0)), (3, .int (nI 0)), (2, .int (zop_doubtful (w, n, mm, cd, rd) false)), (0, .ref (E.2.2.2 32)), (1, .int (nI k))]) dX6_drawn_33 (by decide) rfl ?_
    have loop35 : ∀ (fuel35 : Nat) (i : Nat) (N : zM) (_ : i ≤ k) (_ : zfD (zputI M 32 0 (nI 0)) N) (_ : N.2 32 14 = (zdw (w, n, mm, cd, rd) sd i).1), k - i < fuel35 → zJ E x 35 [(4, .int (nI i)), (3, .int (nI ((zdw (w, n, mm, cd, rd) sd i).2))), (2, .int (zop_doubtful (w, n, mm, cd, rd) false)), (0, .ref (E.2.2.2 32)), (1, .int (nI k))] [] N := by
      intro fuel35
      induction fuel35 with
      | zero =>
        intros; omega
      | succ fuel35 ih35 =>
        intro i N hi hNf hNs hfuel35
        refine z_iload hx 0 dX6_drawn_35 rfl ?_
        refine z_iload_n hx 4 dX6_drawn_37 rfl rfl ?_
        refine z_icmp_ge_n (tgt := 163) hx (by omega) (by omega) dX6_drawn_38 (by decide) (fun h38 => ?_) (fun h38 => ?_)
        · skip
          refine z_iload_n hx 1 dX6_drawn_163 rfl rfl ?_
          exact ri _ _ _ _ rfl ⟨_, rfl, (by
              rw [zop_drawn, if_neg q11, nI_clamp (by omega), ← show i = k by omega]
              refine ⟨rfl, ?_, zfr_tr zfN_t (zfr_w hNf.1 (fun c z => by omega))⟩
              obtain ⟨⟨a1, a2⟩, a3, a4, ⟨a5, a6⟩, a7, a8⟩ := zMs_t hσ2
              refine ⟨⟨(hNf.2 2 (by omega)).1.trans a1, ?_⟩, (hNf.2 4 (by omega)).1.trans a3, ?_, ⟨(hNf.2 11 (by omega)).1.trans a5, ?_⟩, ?_, hNs⟩
              · rw [(zfm_c hNf (c := 33) (by omega) (by omega)).1]; exact a2
              · rw [(zfm_c hNf (c := 35) (by omega) (by omega)).1]; exact a4
              · rw [(zfm_c hNf (c := 38) (by omega) (by omega)).1]; exact a6
              · rw [(zfm_c hNf (c := 39) (by omega) (by omega)).1, (zfm_c hNf (c := 40) (by omega) (by omega)).1]; exact a7)⟩ dX6_drawn_164
        · skip
          refine z_aload_n hx 3 dX6_drawn_41 rfl rfl ?_
          refine z_aload_n hx 3 dX6_drawn_42 rfl rfl ?_
          refine zg_X6_14 hx zw_590 dX6_drawn_43 ?_
          refine z_eql (b := (zdw (w, n, mm, cd, rd) sd i).1) hNs ?_
          refine z_ldc2 hx zw_899 dX6_drawn_46 ?_
          refine z_lmul hx dX6_drawn_49 ?_
          refine z_ldc2 hx zw_900 dX6_drawn_50 ?_
          refine z_ladd hx dX6_drawn_53 ?_
          refine zp_X6_14 hx zw_590 dX6_drawn_54 ?_
          refine z_aload_n hx 3 dX6_drawn_57 rfl rfl ?_
          refine zg_X6_14 hx zw_590 dX6_drawn_58 ?_
          refine z_eql (b := (((zdw (w, n, mm, cd, rd) sd i).1) * (6364136223846793005)) + (1442695040888963407)) zhtJ ?_
          refine z_bipush hx (v := nI 33) dX6_drawn_61 (by decide +kernel) ?_
          refine z_lushr hx dX6_drawn_63 ?_
          refine z_l2i hx dX6_drawn_64 ?_
          refine z_eqi (b := (zsv (zsd (zdw (w, n, mm, cd, rd) sd i).1))) rfl ?_
          generalize hb : (zsv (zsd (zdw (w, n, mm, cd, rd) sd i).1)) = b
          refine z_istore hx (lv2 := [(5, .int b), (4, .int (nI i)), (3, .int (nI ((zdw (w, n, mm, cd, rd) sd i).2))), (2, .int (zop_doubtful (w, n, mm, cd, rd) false)), (0, .ref (E.2.2.2 32)), (1, .int (nI k))]) dX6_drawn_65 (by decide) rfl ?_
          refine z_aload_n hx 4 dX6_drawn_67 rfl rfl ?_
          refine zg_X6_7 hx zw_583 dX6_drawn_68 ?_
          refine z_aload_n hx 4 dX6_drawn_71 rfl rfl ?_
          refine zg_X6_9 hx zw_585 dX6_drawn_72 ?_
          refine z_callS hx (As := [.ref (E.2.2.2 35), .ref (E.2.2.2 37)]) (st := []) (k_X6_copy hI (zputJ N 32 14 ((((zdw (w, n, mm, cd, rd) sd i).1) * (6364136223846793005)) + (1442695040888963407))) (p := 35) (q := 37) zPc_35 zPc_37 (by omega)) zw_689 zy_X6_copy ⟨rfl, rfl⟩ (by decide) rfl rfl (Nat.le_of_ble_eq_true rfl) dX6_drawn_75 ?_
          rintro _ M75 ⟨rfl, q75⟩
          show zJ E x 78 _ [] _
          refine z_iconst hx (v := nI 0) dX6_drawn_78 (by decide +kernel) ?_
          refine z_istore hx (lv2 := [(6, .int (nI 0)), (5, .int b), (4, .int (nI i)), (3, .int (nI ((zdw (w, n, mm, cd, rd) sd i).2))), (2, .int (zop_doubtful (w, n, mm, cd, rd) false)), (0, .ref (E.2.2.2 32)), (1, .int (nI k))]) dX6_drawn_79 (by decide) rfl ?_
          have loop81 : ∀ (fuel81 : Nat) (t : Nat) (K : zM) (_ : t ≤ n) (_ : zfD (zputI M 32 0 (nI 0)) K) (_ : K.2 32 14 = zsd (zdw (w, n, mm, cd, rd) sd i).1) (_ : zPf (K.1 37) (w, n, mm, cd, fun k => if k < t then rd k + zmo b k else rd k)), n - t < fuel81 → zJ E x 81 [(6, .int (nI t)), (5, .int b), (4, .int (nI i)), (3, .int (nI ((zdw (w, n, mm, cd, rd) sd i).2))), (2, .int (zop_doubtful (w, n, mm, cd, rd) false)), (0, .ref (E.2.2.2 32)), (1, .int (nI k))] [] K := by
            intro fuel81
            induction fuel81 with
            | zero =>
              intros; omega
            | succ fuel81 ih81 =>
              intro t K ht hKf hKs hKp hfuel81
              refine z_iload hx 0 dX6_drawn_81 rfl ?_
              refine z_aload_n hx 5 dX6_drawn_83 rfl rfl ?_
              refine zg_X6_9 hx zw_585 dX6_drawn_84 ?_
              refine z_iconst hx (v := nI 1) dX6_drawn_87 (by decide +kernel) ?_
              refine z_iald_n hx (zIA_37 E) (by omega) dX6_drawn_88 ?_
              refine z_eqi (b := nI n) hKp.2.1 ?_
              refine z_icmp_ge_n (tgt := 136) hx (by omega) (by omega) dX6_drawn_89 (by decide) (fun h89 => ?_) (fun h89 => ?_)
              · skip
                have hRd : zPr K 37 (zdraw (w, n, mm, cd, rd) b) := ⟨(hKf.2 4 (by omega)).1.trans (zskK (by omega) hW), zPf_rd hKp (fun k2 hk2 => by have hk3 : k2 < n := hk2; rw [if_pos (by omega)]), zVr_draw (r := (w, n, mm, cd, rd)) hk.1 h9 b⟩
                refine z_iload_n hx 3 dX6_drawn_136 rfl rfl ?_
                refine z_aload_n hx 5 dX6_drawn_137 rfl rfl ?_
                refine z_aload_n hx 5 dX6_drawn_138 rfl rfl ?_
                refine zg_X6_9 hx zw_585 dX6_drawn_139 ?_
                refine z_iconst hx (v := nI 0) dX6_drawn_142 (by decide +kernel) ?_
                refine z_callV hx (As := [.ref (E.2.2.2 37), .int (nI 0)]) (st := [.int (nI ((zdw (w, n, mm, cd, rd) sd i).2))]) (k_X6_doubtfulOf hI K zPc_37 hRd false) zw_853 zy_X6_doubtfulOf ⟨rfl, rfl⟩ (by decide) (zOB_X6 E) rfl rfl rfl rfl (Nat.le_of_ble_eq_true rfl) dX6_drawn_143 ?_
                rintro _ M143 ⟨v143, rfl, q143⟩
                have q143v := q143.1
                subst q143v
                show zJ E x 146 _ [.int (zop_doubtful (zdraw (w, n, mm, cd, rd) b) false), .int (nI ((zdw (w, n, mm, cd, rd) sd i).2))] _
                refine z_iload_n hx 4 dX6_drawn_146 rfl rfl ?_
                refine z_icmp_ne (tgt := 154) hx dX6_drawn_147 (by decide) (fun h147 => ?_) (fun h147 => ?_)
                · skip
                  rw [← hb] at h147
                  refine z_iconst hx (v := nI 0) dX6_drawn_154 (by decide +kernel) ?_
                  refine z_iadd_n hx dX6_drawn_155 ?_
                  refine z_istore_n hx (lv2 := [(3, .int (nI (((zdw (w, n, mm, cd, rd) sd i).2) + 0))), (6, .int (nI t)), (5, .int b), (4, .int (nI i)), (2, .int (zop_doubtful (w, n, mm, cd, rd) false)), (0, .ref (E.2.2.2 32)), (1, .int (nI k))]) dX6_drawn_156 rfl (by decide) rfl ?_
                  refine z_iinc hx (w := nI (i + 1)) (lv2 := [(4, .int (nI (i + 1))), (3, .int (nI (((zdw (w, n, mm, cd, rd) sd i).2) + 0))), (6, .int (nI t)), (5, .int b), (2, .int (zop_doubtful (w, n, mm, cd, rd) false)), (0, .ref (E.2.2.2 32)), (1, .int (nI k))]) 3 dX6_drawn_157 rfl (z_inc _) (by decide) rfl ?_
                  refine z_goto (tgt := 35) hx dX6_drawn_160 (by decide) ?_
                  exact z_to (ih35 (i + 1) M143 (by omega) (zfm_tr hKf (zfD_L q143.2)) ((q143.2.2 14 (by omega)).2.trans hKs) (by omega)) [0, 1, 4, 5, 6] (by rw [show (zdw (w, n, mm, cd, rd) sd (i + 1)).2 = _ from if_neg h147]; rfl) rfl
                · skip
                  rw [← hb] at h147
                  refine z_iconst hx (v := nI 1) dX6_drawn_150 (by decide +kernel) ?_
                  refine z_goto (tgt := 155) hx dX6_drawn_151 (by decide) ?_
                  refine z_iadd_n hx dX6_drawn_155 ?_
                  refine z_istore_n hx (lv2 := [(3, .int (nI (((zdw (w, n, mm, cd, rd) sd i).2) + 1))), (6, .int (nI t)), (5, .int b), (4, .int (nI i)), (2, .int (zop_doubtful (w, n, mm, cd, rd) false)), (0, .ref (E.2.2.2 32)), (1, .int (nI k))]) dX6_drawn_156 rfl (by decide) rfl ?_
                  refine z_iinc hx (w := nI (i + 1)) (lv2 := [(4, .int (nI (i + 1))), (3, .int (nI (((zdw (w, n, mm, cd, rd) sd i).2) + 1))), (6, .int (nI t)), (5, .int b), (2, .int (zop_doubtful (w, n, mm, cd, rd) false)), (0, .ref (E.2.2.2 32)), (1, .int (nI k))]) 3 dX6_drawn_157 rfl (z_inc _) (by decide) rfl ?_
                  refine z_goto (tgt := 35) hx dX6_drawn_160 (by decide) ?_
                  exact z_to (ih35 (i + 1) M143 (by omega) (zfm_tr hKf (zfD_L q143.2)) ((q143.2.2 14 (by omega)).2.trans hKs) (by omega)) [0, 1, 4, 5, 6] (by rw [show (zdw (w, n, mm, cd, rd) sd (i + 1)).2 = _ from if_pos h147]; rfl) rfl
              · skip
                refine z_iload hx 1 dX6_drawn_92 rfl ?_
                refine z_iconst hx (v := nI 2) dX6_drawn_94 (by decide +kernel) ?_
                refine z_iload hx 0 dX6_drawn_95 rfl ?_
                refine z_imul_n hx dX6_drawn_97 ?_
                refine z_ishr hx dX6_drawn_98 ?_
                refine z_iconst hx (v := nI 3) dX6_drawn_99 (by decide +kernel) ?_
                refine z_iand hx dX6_drawn_100 ?_
                refine z_iconst hx (v := nI 1) dX6_drawn_101 (by decide +kernel) ?_
                refine z_isub hx dX6_drawn_102 ?_
                obtain ⟨j, hj4, ej⟩ := zmo_x b t
                rw [ej]
                refine z_istore hx (lv2 := [(7, .int (nI j - nI 1)), (6, .int (nI t)), (5, .int b), (4, .int (nI i)), (3, .int (nI ((zdw (w, n, mm, cd, rd) sd i).2))), (2, .int (zop_doubtful (w, n, mm, cd, rd) false)), (0, .ref (E.2.2.2 32)), (1, .int (nI k))]) dX6_drawn_103 (by decide) rfl ?_
                refine z_aload_n hx 6 dX6_drawn_105 rfl rfl ?_
                refine zg_X6_9 hx zw_585 dX6_drawn_106 ?_
                refine z_bipush hx (v := nI 10) dX6_drawn_109 (by decide +kernel) ?_
                refine z_iload hx 1 dX6_drawn_111 rfl ?_
                refine z_iadd_n hx dX6_drawn_113 ?_
                refine z_dup2_11 hx dX6_drawn_114 rfl rfl ?_
                refine z_iald_n hx (zIA_37 E) (by omega) dX6_drawn_115 ?_
                refine z_eqi (b := Int32.ofInt (rd t)) ((hKp.2.2 t (by omega)).2.trans (congrArg Int32.ofInt (if_neg (Nat.lt_irrefl t)))) ?_
                refine z_iload hx 0 dX6_drawn_116 rfl ?_
                refine z_iconst hx (v := nI 2) dX6_drawn_118 (by decide +kernel) ?_
                refine z_icmp_ne (tgt := 126) hx dX6_drawn_119 (by decide) (fun h119 => ?_) (fun h119 => ?_)
                · skip
                  refine z_iload hx 0 dX6_drawn_126 rfl ?_
                  refine z_iadd hx dX6_drawn_128 ?_
                  refine z_iast_n hx (zIA_37 E) (by omega) dX6_drawn_129 ?_
                  refine z_iinc hx (w := nI (t + 1)) (lv2 := [(6, .int (nI (t + 1))), (7, .int (nI j - nI 1)), (5, .int b), (4, .int (nI i)), (3, .int (nI ((zdw (w, n, mm, cd, rd) sd i).2))), (2, .int (zop_doubtful (w, n, mm, cd, rd) false)), (0, .ref (E.2.2.2 32)), (1, .int (nI k))]) 1 dX6_drawn_130 rfl (z_inc _) (by decide) rfl ?_
                  refine z_goto (tgt := 81) hx dX6_drawn_133 (by decide) ?_
                  exact z_to (ih81 (t + 1) (zputI K 37 (10 + t) ((Int32.ofInt (rd t)) + (nI j - nI 1))) (by omega) (zfm_tr hKf (zfm_cI (Or.inl rfl) (by omega))) hKs (zpd_step hKp hn8 (by rw [zmo_j hj4 ej]; rw [if_neg (fun z => h119 ((zmo_2 j hj4).mpr z))]; exact zdr_v1 _ _)) (by omega)) [0, 2, 3, 4, 5, 6, 7] rfl rfl
                · skip
                  refine z_iconst hx (v := nI 0) dX6_drawn_122 (by decide +kernel) ?_
                  refine z_goto (tgt := 128) hx dX6_drawn_123 (by decide) ?_
                  refine z_iadd hx dX6_drawn_128 ?_
                  refine z_iast_n hx (zIA_37 E) (by omega) dX6_drawn_129 ?_
                  refine z_iinc hx (w := nI (t + 1)) (lv2 := [(6, .int (nI (t + 1))), (7, .int (nI j - nI 1)), (5, .int b), (4, .int (nI i)), (3, .int (nI ((zdw (w, n, mm, cd, rd) sd i).2))), (2, .int (zop_doubtful (w, n, mm, cd, rd) false)), (0, .ref (E.2.2.2 32)), (1, .int (nI k))]) 1 dX6_drawn_130 rfl (z_inc _) (by decide) rfl ?_
                  refine z_goto (tgt := 81) hx dX6_drawn_133 (by decide) ?_
                  exact z_to (ih81 (t + 1) (zputI K 37 (10 + t) ((Int32.ofInt (rd t)) + (nI 0))) (by omega) (zfm_tr hKf (zfm_cI (Or.inl rfl) (by omega))) hKs (zpd_step hKp hn8 (by rw [zmo_j hj4 ej]; rw [if_pos ((zmo_2 j hj4).mp h119)]; exact zdr_v0 _)) (by omega)) [0, 2, 3, 4, 5, 6, 7] rfl rfl
          exact z_to (loop81 _ 0 M75 (Nat.zero_le _) (zfm_tr (zfm_tr hNf (zfm_fJ (Or.inl rfl))) (zfm_of (zfr_w q75.2 (fun c z => Or.inl z)) (by omega))) (by rw [(q75.2 32 (by omega)).2]; exact zhtJ) (zPf_rd (zPf_cg hP hn8 (fun j hj => (q75.1 j hj).trans (by show N.1 35 j = M.1 35 j; rw [(zfm_c hNf (c := 35) (by omega) (by omega)).1]; rfl))) (fun t ht => if_neg (Nat.not_lt_zero _))) (Nat.lt_succ_self _)) [0, 1, 2, 3, 4, 5, 6] rfl rfl
    exact z_to (loop35 _ 0 M26 (Nat.zero_le _) (zfD_L q26.2) ((q26.2.2 14 (by omega)).2.trans hsd) (Nat.lt_succ_self _)) [0, 1, 2, 3, 4] rfl rfl
  · skip
    show zJ E x 14 _ [.int (nI 0)] _
    refine z_if_ne_n (tgt := 20) hx (by decide) dX6_drawn_14 (by decide) (fun h => absurd h (by decide)) (fun _ => ?_)
    refine z_bipush hx (v := (-2)) dX6_drawn_17 rfl ?_
    exact ri _ _ _ _ rfl ⟨_, rfl, (by rw [zop_drawn, if_pos (Classical.byContradiction q11)]; exact ⟨rfl, zMs_t hσ2, zfN_t⟩)⟩ dX6_drawn_19
