theorem zbk_a {M N : zM} {as : Nat → zRo} {s : Nat} {r : zRo} (hs : ¬ s = 14) (hA : ∀ i, i < s → zPf (fun k => M.1 38 (18 * i + k)) (as i)) (h8 : ∀ i, i < s → (as i).2.1 ≤ 8) (hP : zPf (M.1 35) r) (hr : r.2.1 ≤ 8) (h1 : ∀ j, j < 18 → N.1 38 (18 * s + j) = M.1 35 j) (h2 : ∀ j, j < 18 * s ∨ 18 * s + 18 ≤ j → N.1 38 j = M.1 38 j) : ∀ i, i < (zpush as s r).2 → zPf (fun k => N.1 38 (18 * i + k)) ((zpush as s r).1 i) := by
  rw [zpush, if_neg hs]
  intro i hi
  have hi2 : i < s + 1 := hi
  show zPf (fun k => N.1 38 (18 * i + k)) (va_up as s r i)
  unfold va_up
  by_cases e : i = s
  · subst e
    rw [if_pos rfl]
    exact zPf_cg hP hr (fun k hk => h1 k hk)
  · rw [if_neg e]
    exact zPf_cg (hA i (by omega)) (h8 i (by omega)) (fun k hk => h2 _ (by omega))
theorem zbk_b {M N NA : zM} {as : Nat → zRo} {s : Nat} {r : zRo} (hs : s = 14) (hA : ∀ i, i < s → zPf (fun k => M.1 38 (18 * i + k)) (as i)) (h8 : ∀ i, i < s → (as i).2.1 ≤ 8) (hP : zPf (M.1 35) r) (hr : r.2.1 ≤ 8) (h0 : ∀ j, j < 234 → NA.1 38 j = M.1 38 (j + 18)) (h1 : ∀ j, j < 18 → N.1 38 (18 * (s - 1) + j) = M.1 35 j) (h2 : ∀ j, j < 18 * (s - 1) ∨ 18 * (s - 1) + 18 ≤ j → N.1 38 j = NA.1 38 j) : ∀ i, i < (zpush as s r).2 → zPf (fun k => N.1 38 (18 * i + k)) ((zpush as s r).1 i) := by
  subst hs
  rw [zpush, if_pos rfl]
  intro i hi
  have hi2 : i < 14 := hi
  show zPf (fun k => N.1 38 (18 * i + k)) (if i < 13 then as (i + 1) else r)
  by_cases e : i < 13
  · rw [if_pos e]
    exact zPf_cg (hA (i + 1) (by omega)) (h8 (i + 1) (by omega)) (fun k hk => by
      rw [h2 _ (by omega), h0 _ (by omega)]
      show M.1 38 (18 * i + k + 18) = M.1 38 (18 * (i + 1) + k)
      rw [show 18 * i + k + 18 = 18 * (i + 1) + k by omega])
  · rw [if_neg e, show i = 13 by omega]
    exact zPf_cg hP hr (fun k hk => h1 k hk)
set_option maxHeartbeats 4000000 in
set_option maxRecDepth 100000 in
theorem k_X6_note {E : zE} (hI : zI E) (M : zM) {r : zRo} {as : Nat → zRo} {s : Nat} (hs : M.1 32 11 = nI s) (hs14 : s ≤ 14) (hA : ∀ i, i < s → zPf (fun k => M.1 38 (18 * i + k)) (as i)) (h8 : ∀ i, i < s → (as i).2.1 ≤ 8) (hP : zPf (M.1 35) r) (hr : r.2.1 ≤ 8) : zK E yX6_note (.code yX6_note cX6_note 2 none) (zrm 0 0) [.ref (E.2.2.2 32)] M (zpv (fun M2 => (M2.1 32 11 = nI (zpush as s r).2 ∧ ∀ i, i < (zpush as s r).2 → zPf (fun k => M2.1 38 (18 * i + k)) ((zpush as s r).1 i)) ∧ zfm (fun c => c = 38) (fun k => k = 11) M M2)) := by
  refine zK_of hI (by decide) (Nat.le_of_ble_eq_true rfl) (fun x hx ri rz rl rv => ?_)
  show zJ E x 0 [(0, .ref (E.2.2.2 32))] [] M
  refine z_aload_n hx 0 dX6_note_0 rfl rfl ?_
  refine zg_X6_11 hx zw_587 dX6_note_1 ?_
  refine z_eqi (b := nI s) hs ?_
  refine z_bipush hx (v := nI 14) dX6_note_4 (by decide +kernel) ?_
  refine z_icmp_ne_n (tgt := 49) hx (by omega) (by omega) dX6_note_6 (by decide) (fun h6 => ?_) (fun h6 => ?_)
  · skip
    refine z_iconst hx (v := nI 0) dX6_note_49 (by decide +kernel) ?_
    refine z_istore_n hx (lv2 := [(1, .int (nI 0)), (0, .ref (E.2.2.2 32))]) dX6_note_50 rfl (by decide) rfl ?_
    have loop51 : ∀ (fuel51 : Nat) (k : Nat) (N : zM) (_ : k ≤ 18) (_ : zfr (fun c => c = 38) M N) (_ : ∀ j, j < k → N.1 38 (18 * s + j) = M.1 35 j) (_ : ∀ j, j < 18 * s ∨ 18 * s + 18 ≤ j → N.1 38 j = M.1 38 j), 18 - k < fuel51 → zJ E x 51 [(1, .int (nI k)), (0, .ref (E.2.2.2 32))] [] N := by
      intro fuel51
      induction fuel51 with
      | zero =>
        intros; omega
      | succ fuel51 ih51 =>
        intro k N hk2 hBf hB1 hB2 hfuel51
        refine z_iload_n hx 0 dX6_note_51 rfl rfl ?_
        refine z_bipush hx (v := nI 18) dX6_note_52 (by decide +kernel) ?_
        refine z_icmp_ge_n (tgt := 83) hx (by omega) (by omega) dX6_note_54 (by decide) (fun h54 => ?_) (fun h54 => ?_)
        · skip
          refine z_aload_n hx 1 dX6_note_83 rfl rfl ?_
          refine z_dup hx dX6_note_84 rfl ?_
          refine zg_X6_11 hx zw_587 dX6_note_85 ?_
          refine z_eqi (b := nI s) (by rw [(hBf 32 (by omega)).1]; exact hs) ?_
          refine z_iconst hx (v := nI 1) dX6_note_88 (by decide +kernel) ?_
          refine z_iadd_n hx dX6_note_89 ?_
          refine zp_X6_11 hx zw_587 dX6_note_90 ?_
          exact rv _ _ _ rfl ⟨rfl, (by
              refine ⟨⟨by show (zputI N 32 11 (nI (s + 1))).1 32 11 = _; rw [zpush, if_neg h6]; exact zhtI, fun i hi => zbk_a (M := M) (N := zputI N 32 11 (nI (s + 1))) h6 hA h8 hP hr (fun j hj => zskI (by omega) (hB1 j (by omega))) (fun j hj => zskI (by omega) (hB2 j hj)) i hi⟩, ?_⟩
              exact zfm_tr (zfm_of hBf (by omega)) (zfm_fI rfl))⟩ dX6_note_93
        · skip
          refine z_aload_n hx 1 dX6_note_57 rfl rfl ?_
          refine zg_X6_10 hx zw_586 dX6_note_58 ?_
          refine z_bipush hx (v := nI 18) dX6_note_61 (by decide +kernel) ?_
          refine z_aload_n hx 1 dX6_note_63 rfl rfl ?_
          refine zg_X6_11 hx zw_587 dX6_note_64 ?_
          refine z_eqi (b := nI s) (by rw [(hBf 32 (by omega)).1]; exact hs) ?_
          refine z_imul_n hx dX6_note_67 ?_
          refine z_iload_n hx 0 dX6_note_68 rfl rfl ?_
          refine z_iadd_n hx dX6_note_69 ?_
          refine z_aload_n hx 1 dX6_note_70 rfl rfl ?_
          refine zg_X6_7 hx zw_583 dX6_note_71 ?_
          refine z_iload_n hx 0 dX6_note_74 rfl rfl ?_
          refine z_iald_n hx (zIA_35 E) (by omega) dX6_note_75 ?_
          refine z_eqi (b := M.1 35 k) (by rw [(hBf 35 (by omega)).1]) ?_
          refine z_iast_n hx (zIA_38 E) (by omega) dX6_note_76 ?_
          refine z_iinc hx (w := nI (k + 1)) (lv2 := [(1, .int (nI (k + 1))), (0, .ref (E.2.2.2 32))]) 0 dX6_note_77 rfl (z_inc _) (by decide) rfl ?_
          refine z_goto (tgt := 51) hx dX6_note_80 (by decide) ?_
          exact z_to (ih51 (k + 1) (zputI N 38 ((18 * s) + k) (M.1 35 k)) (by omega) (zfr_tr hBf (zfr_putI rfl)) (fun j hj => by
              rw [zg_putI]
              by_cases e : j = k
              · subst e
                rw [if_pos ⟨rfl, rfl⟩]
              · rw [if_neg (by omega)]
                exact hB1 j (by omega)) (fun j hj => by rw [zg_putI, if_neg (by omega)]; exact hB2 j (by omega)) (by omega)) [0, 1] rfl rfl
    exact z_to (loop51 _ 0 M (by omega) (zfr_rf _ _) (fun j hj => by omega) (fun _ _ => rfl) (Nat.lt_succ_self _)) [0, 1] rfl rfl
  · skip
    refine z_iconst hx (v := nI 0) dX6_note_9 (by decide +kernel) ?_
    refine z_istore_n hx (lv2 := [(1, .int (nI 0)), (0, .ref (E.2.2.2 32))]) dX6_note_10 rfl (by decide) rfl ?_
    have loop11 : ∀ (fuel11 : Nat) (k : Nat) (NA : zM) (_ : k ≤ 234) (_ : zfr (fun c => c = 38) M NA) (_ : ∀ j, j < k → NA.1 38 j = M.1 38 (j + 18)) (_ : ∀ j, k ≤ j → NA.1 38 j = M.1 38 j), 234 - k < fuel11 → zJ E x 11 [(1, .int (nI k)), (0, .ref (E.2.2.2 32))] [] NA := by
      intro fuel11
      induction fuel11 with
      | zero =>
        intros; omega
      | succ fuel11 ih11 =>
        intro k NA hk hNf hN1 hN2 hfuel11
        refine z_iload_n hx 0 dX6_note_11 rfl rfl ?_
        refine z_sipush hx (v := nI 234) dX6_note_12 (by decide +kernel) ?_
        refine z_icmp_ge_n (tgt := 39) hx (by omega) (by omega) dX6_note_15 (by decide) (fun h15 => ?_) (fun h15 => ?_)
        · skip
          have hN1' : ∀ j, j < 234 → NA.1 38 j = M.1 38 (j + 18) := fun j hj => hN1 j (by omega)
          refine z_aload_n hx 1 dX6_note_39 rfl rfl ?_
          refine z_dup hx dX6_note_40 rfl ?_
          refine zg_X6_11 hx zw_587 dX6_note_41 ?_
          refine z_eqi (b := nI s) (by rw [(hNf 32 (by omega)).1]; exact hs) ?_
          refine z_iconst hx (v := nI 1) dX6_note_44 (by decide +kernel) ?_
          refine z_isub_n hx (by omega) dX6_note_45 ?_
          refine zp_X6_11 hx zw_587 dX6_note_46 ?_
          refine z_iconst hx (v := nI 0) dX6_note_49 (by decide +kernel) ?_
          refine z_istore_n hx (lv2 := [(1, .int (nI 0)), (0, .ref (E.2.2.2 32))]) dX6_note_50 rfl (by decide) rfl ?_
          have loop51 : ∀ (fuel51 : Nat) (k : Nat) (N : zM) (_ : k ≤ 18) (_ : zfr (fun c => c = 38) (zputI NA 32 11 (nI (s - 1))) N) (_ : ∀ j, j < k → N.1 38 (18 * (s - 1) + j) = M.1 35 j) (_ : ∀ j, j < 18 * (s - 1) ∨ 18 * (s - 1) + 18 ≤ j → N.1 38 j = (zputI NA 32 11 (nI (s - 1))).1 38 j), 18 - k < fuel51 → zJ E x 51 [(1, .int (nI k)), (0, .ref (E.2.2.2 32))] [] N := by
            intro fuel51
            induction fuel51 with
            | zero =>
              intros; omega
            | succ fuel51 ih51 =>
              intro k N hk2 hBf hB1 hB2 hfuel51
              refine z_iload_n hx 0 dX6_note_51 rfl rfl ?_
              refine z_bipush hx (v := nI 18) dX6_note_52 (by decide +kernel) ?_
              refine z_icmp_ge_n (tgt := 83) hx (by omega) (by omega) dX6_note_54 (by decide) (fun h54 => ?_) (fun h54 => ?_)
              · skip
                refine z_aload_n hx 1 dX6_note_83 rfl rfl ?_
                refine z_dup hx dX6_note_84 rfl ?_
                refine zg_X6_11 hx zw_587 dX6_note_85 ?_
                refine z_eqi (b := nI (s - 1)) (by rw [(hBf 32 (by omega)).1]; exact zhtI) ?_
                refine z_iconst hx (v := nI 1) dX6_note_88 (by decide +kernel) ?_
                refine z_iadd_n hx dX6_note_89 ?_
                refine zp_X6_11 hx zw_587 dX6_note_90 ?_
                exact rv _ _ _ rfl ⟨rfl, (by
                    have hk234 : k = 234 ∨ True := Or.inr True.intro
                    refine ⟨⟨by show (zputI N 32 11 (nI (s - 1 + 1))).1 32 11 = _; rw [zpush, if_pos h6]; exact zhtI.trans (by rw [h6]), fun i hi => zbk_b (M := M) (NA := NA) (N := zputI N 32 11 (nI (s - 1 + 1))) h6 hA h8 hP hr hN1' (fun j hj => zskI (by omega) (hB1 j (by omega))) (fun j hj => zskI (by omega) (hB2 j hj)) i hi⟩, ?_⟩
                    exact zfm_tr (zfm_tr (zfm_tr (zfm_of hNf (by omega)) (zfm_fI rfl)) (zfm_of hBf (by omega))) (zfm_fI rfl))⟩ dX6_note_93
              · skip
                refine z_aload_n hx 1 dX6_note_57 rfl rfl ?_
                refine zg_X6_10 hx zw_586 dX6_note_58 ?_
                refine z_bipush hx (v := nI 18) dX6_note_61 (by decide +kernel) ?_
                refine z_aload_n hx 1 dX6_note_63 rfl rfl ?_
                refine zg_X6_11 hx zw_587 dX6_note_64 ?_
                refine z_eqi (b := nI (s - 1)) (by rw [(hBf 32 (by omega)).1]; exact zhtI) ?_
                refine z_imul_n hx dX6_note_67 ?_
                refine z_iload_n hx 0 dX6_note_68 rfl rfl ?_
                refine z_iadd_n hx dX6_note_69 ?_
                refine z_aload_n hx 1 dX6_note_70 rfl rfl ?_
                refine zg_X6_7 hx zw_583 dX6_note_71 ?_
                refine z_iload_n hx 0 dX6_note_74 rfl rfl ?_
                refine z_iald_n hx (zIA_35 E) (by omega) dX6_note_75 ?_
                refine z_eqi (b := M.1 35 k) (by rw [(hBf 35 (by omega)).1]; exact zskI (by omega) (by rw [(hNf 35 (by omega)).1])) ?_
                refine z_iast_n hx (zIA_38 E) (by omega) dX6_note_76 ?_
                refine z_iinc hx (w := nI (k + 1)) (lv2 := [(1, .int (nI (k + 1))), (0, .ref (E.2.2.2 32))]) 0 dX6_note_77 rfl (z_inc _) (by decide) rfl ?_
                refine z_goto (tgt := 51) hx dX6_note_80 (by decide) ?_
                exact z_to (ih51 (k + 1) (zputI N 38 ((18 * (s - 1)) + k) (M.1 35 k)) (by omega) (zfr_tr hBf (zfr_putI rfl)) (fun j hj => by
                    rw [zg_putI]
                    by_cases e : j = k
                    · subst e
                      rw [if_pos ⟨rfl, rfl⟩]
                    · rw [if_neg (by omega)]
                      exact hB1 j (by omega)) (fun j hj => by rw [zg_putI, if_neg (by omega)]; exact hB2 j (by omega)) (by omega)) [0, 1] rfl rfl
          exact z_to (loop51 _ 0 (zputI NA 32 11 (nI (s - 1))) (by omega) (zfr_rf _ _) (fun j hj => by omega) (fun _ _ => rfl) (Nat.lt_succ_self _)) [0, 1] rfl rfl
        · skip
          refine z_aload_n hx 1 dX6_note_18 rfl rfl ?_
          refine zg_X6_10 hx zw_586 dX6_note_19 ?_
          refine z_iload_n hx 0 dX6_note_22 rfl rfl ?_
          refine z_aload_n hx 1 dX6_note_23 rfl rfl ?_
          refine zg_X6_10 hx zw_586 dX6_note_24 ?_
          refine z_iload_n hx 0 dX6_note_27 rfl rfl ?_
          refine z_bipush hx (v := nI 18) dX6_note_28 (by decide +kernel) ?_
          refine z_iadd_n hx dX6_note_30 ?_
          refine z_iald_n hx (zIA_38 E) (by omega) dX6_note_31 ?_
          refine z_iast_n hx (zIA_38 E) (by omega) dX6_note_32 ?_
          refine z_iinc hx (w := nI (k + 1)) (lv2 := [(1, .int (nI (k + 1))), (0, .ref (E.2.2.2 32))]) 0 dX6_note_33 rfl (z_inc _) (by decide) rfl ?_
          refine z_goto (tgt := 11) hx dX6_note_36 (by decide) ?_
          exact z_to (ih11 (k + 1) (zputI NA 38 k (NA.1 38 (k + 18))) (by omega) (zfr_tr hNf (zfr_putI rfl)) (fun j hj => by
              rw [zg_putI]
              by_cases e : j = k
              · rw [if_pos ⟨rfl, e⟩, e, hN2 _ (by omega)]
              · rw [if_neg (fun z => e z.2)]
                exact hN1 j (by omega)) (fun j hj => by rw [zg_putI, if_neg (by omega)]; exact hN2 j (by omega)) (by omega)) [0, 1] rfl rfl
    exact z_to (loop11 _ 0 M (by omega) (zfr_rf _ _) (fun j hj => by omega) (fun _ _ => rfl) (Nat.lt_succ_self _)) [0, 1] rfl rfl
theorem kc_note {E : zE} (hI : zI E) (M : zM) {σ : zSt} (hσ : zMs M σ) (hk : zSk σ) : zK E yX6_note (.code yX6_note cX6_note 2 none) (zrm 0 0) [.ref (E.2.2.2 32)] M (zpv (fun M2 => (M2.1 32 11 = nI (zpush σ.2.2.2.1 σ.2.2.2.2.1 σ.2.2.1).2 ∧ ∀ i, i < (zpush σ.2.2.2.1 σ.2.2.2.2.1 σ.2.2.1).2 → zPf (fun k => M2.1 38 (18 * i + k)) ((zpush σ.2.2.2.1 σ.2.2.2.2.1 σ.2.2.1).1 i)) ∧ zfm (fun c => c = 38) (fun k => k = 11) M M2)) := k_X6_note hI M hσ.2.2.2.1.1 hk.2.2.1 hσ.2.2.2.1.2 (fun i hi => ((hk.2.2.2.1 i hi).1).2.2.1) hσ.2.2.1 hk.1.2.2.1
theorem zMs_act {M M1 N : zM} {σ : zSt} {q : zRo} (h : zMs M σ) (hb : M1.1 32 11 = nI (zpush σ.2.2.2.1 σ.2.2.2.2.1 σ.2.2.1).2 ∧ ∀ i, i < (zpush σ.2.2.2.1 σ.2.2.2.2.1 σ.2.2.1).2 → zPf (fun k => M1.1 38 (18 * i + k)) ((zpush σ.2.2.2.1 σ.2.2.2.2.1 σ.2.2.1).1 i)) (f1 : zfm (fun c => c = 38) (fun k => k = 11) (zputI M 32 0 (nI 0)) M1) (f2 : zfr (fun c => c = 35) M1 N) (hq : zPf (N.1 35) q) (hw : q.1 = σ.2.2.1.1) : zMs N (zact σ q) ∧ zfN M N := by
  obtain ⟨⟨a1, a2⟩, a3, a4, ⟨a5, a6⟩, a7, a8⟩ := zMs_t h
  have e32 := (f2 32 (by omega))
  refine ⟨⟨⟨by rw [e32.1, (f1.2 2 (by omega)).1]; exact a1, ?_⟩, by rw [e32.1, (f1.2 4 (by omega)).1, a3]; show nI σ.2.2.1.1 = nI q.1; rw [hw], hq, ⟨by rw [e32.1]; exact hb.1, ?_⟩, ?_, by rw [e32.2, (f1.2 14 (by omega)).2]; exact a8⟩, zfr_tr zfN_t (zfr_tr (zfr_w f1.1 (fun c z => by omega)) (zfr_w f2 (fun c z => by omega)))⟩
  · rw [(f2 33 (by omega)).1, (zfm_c f1 (by omega) (by omega)).1]; exact a2
  · rw [(f2 38 (by omega)).1]; exact hb.2
  · rw [(f2 39 (by omega)).1, (f2 40 (by omega)).1, (zfm_c f1 (c := 39) (by omega) (by omega)).1, (zfm_c f1 (c := 40) (by omega) (by omega)).1]; exact a7
theorem zPf_append {M : zM} {p w n mm k : Nat} {cd : Nat → Nat} {rd : Nat → Int} {z : Int} (h : zPf (M.1 p) (w, n, mm, cd, rd)) (h8 : n < 8) : zPf ((zputI (zputI (zputI M p (2 + n) (nI k)) p (10 + n) (Int32.ofInt z)) p 1 (nI (n + 1))).1 p) (w, n + 1, mm, va_up cd n k, va_up rd n z) := by
  refine ⟨zskK (by omega) (zskK (by omega) (zskK (by omega) h.1)), zhtI, fun t ht => ?_⟩
  have ht2 : t < n + 1 := ht
  show _ = nI (va_up cd n k t) ∧ _ = Int32.ofInt (va_up rd n z t)
  unfold va_up
  by_cases e : t = n
  · subst e
    rw [if_pos rfl, if_pos rfl]
    exact ⟨zskK (by omega) (zskK (by omega) zhtI), zskK (by omega) zhtI⟩
  · rw [if_neg e, if_neg e]
    have q := h.2.2 t (by show t < n; omega)
    exact ⟨zskK (by omega) (zskK (by omega) (zskK (by omega) q.1)), zskK (by omega) (zskK (by omega) (zskK (by omega) q.2))⟩
theorem zPf_exch {M : zM} {p w n mm i j : Nat} {cd : Nat → Nat} {rd : Nat → Int} (h : zPf (M.1 p) (w, n, mm, cd, rd)) (hi : i < n) (hj : j < n) (hn : n ≤ 8) (hij : ¬ i = j) : zPf ((zputI (zputI (zputI (zputI M p (2 + i) (M.1 p (2 + j))) p (2 + j) (M.1 p (2 + i))) p (10 + i) (M.1 p (10 + j))) p (10 + j) (M.1 p (10 + i))).1 p) (w, n, mm, zexch cd i j, zexch rd i j) := by
  refine ⟨zskK (by omega) (zskK (by omega) (zskK (by omega) (zskK (by omega) h.1))), zskK (by omega) (zskK (by omega) (zskK (by omega) (zskK (by omega) h.2.1))), fun t ht => ?_⟩
  have ht2 : t < n := ht
  show _ = nI (zexch cd i j t) ∧ _ = Int32.ofInt (zexch rd i j t)
  unfold zexch
  have qi := h.2.2 i hi
  have qj := h.2.2 j hj
  by_cases e : t = j
  · subst e
    rw [if_pos rfl, if_pos rfl]
    exact ⟨zskK (by omega) (zskK (by omega) (zhtI.trans qi.1)), zhtI.trans qi.2⟩
  · rw [if_neg e, if_neg e]
    by_cases e2 : t = i
    · subst e2
      rw [if_pos rfl, if_pos rfl]
      exact ⟨zskK (by omega) (zskK (by omega) (zskK (by omega) (zhtI.trans qj.1))), zskK (by omega) (zhtI.trans qj.2)⟩
    · rw [if_neg e2, if_neg e2]
      have q := h.2.2 t ht2
      exact ⟨zskK (by omega) (zskK (by omega) (zskK (by omega) (zskK (by omega) q.1))), zskK (by omega) (zskK (by omega) (zskK (by omega) (zskK (by omega) q.2)))⟩
theorem zPf_read {M : zM} {p w n mm j : Nat} {cd : Nat → Nat} {rd : Nat → Int} {z : Int} (h : zPf (M.1 p) (w, n, mm, cd, rd)) (hn : n ≤ 8) : zPf ((zputI M p (10 + j) (Int32.ofInt z)).1 p) (w, n, mm, cd, va_up rd j z) := by
  refine ⟨zskK (by omega) h.1, zskK (by omega) h.2.1, fun t ht => ?_⟩
  have ht2 : t < n := ht
  show _ = nI (cd t) ∧ _ = Int32.ofInt (va_up rd j z t)
  have q := h.2.2 t ht2
  unfold va_up
  by_cases e : t = j
  · subst e
    rw [if_pos rfl]
    exact ⟨zskK (by omega) q.1, zhtI⟩
  · rw [if_neg e]
    exact ⟨zskK (by omega) q.1, zskK (by omega) q.2⟩
theorem zb01 {b : Nat} (h : b ≤ 1) : nI b = 0 ∨ nI b = 1 := by rcases (show b = 0 ∨ b = 1 by omega) with rfl | rfl; exact Or.inl rfl; exact Or.inr rfl
set_option maxHeartbeats 4000000 in
set_option maxRecDepth 100000 in
theorem k_X6_isCode {E : zE} (hI : zI E) (M : zM) {w : Nat} (hW : M.1 32 4 = nI w) (hw4 : w ≤ 4) (t : Int32) : zK E yX6_isCode (.code yX6_isCode cX6_isCode 4 (some .boolean)) (zrm 1 25) [.ref (E.2.2.2 32), .int t] M (zpi (fun v M2 => ((zisC w t = true ∧ v = nI 1) ∨ (zisC w t = false ∧ v = nI 0)) ∧ M2 = M)) := by
  refine zK_of hI (by decide) (Nat.le_of_ble_eq_true rfl) (fun x hx ri rz rl rv => ?_)
  show zJ E x 0 [(0, .ref (E.2.2.2 32)), (1, .int t)] [] M
  have hp5 := zp10 (n := w + 1) (by omega)
  refine z_iload_n hx 1 dX6_isCode_0 rfl rfl ?_
  refine z_i2l hx dX6_isCode_1 ?_
  refine z_lconst hx (v := 0) dX6_isCode_2 rfl ?_
  refine z_bipush hx (v := nI 10) dX6_isCode_3 (by decide +kernel) ?_
  refine z_aload_n hx 0 dX6_isCode_5 rfl rfl ?_
  refine zg_X6_4 hx zw_580 dX6_isCode_6 ?_
  refine z_eqi (b := nI w) hW ?_
  refine z_iconst hx (v := nI 1) dX6_isCode_9 (by decide +kernel) ?_
  refine z_iadd_n hx dX6_isCode_10 ?_
  refine z_callS hx (As := [.int (nI 10), .int (nI (w + 1))]) (st := [.long 0, .long t.toInt64]) (k_X6_power hI M 10 (w + 1) (by omega)) zw_712 zy_X6_power ⟨rfl, rfl⟩ (by decide) rfl rfl (Nat.le_of_ble_eq_true rfl) dX6_isCode_11 ?_
  rintro _ M11 ⟨v11, rfl, q11⟩
  obtain ⟨rfl, q11⟩ := q11
  rw [q11]
  show zJ E x 14 _ [.int (nI (10 ^ (w + 1))), .long 0, .long t.toInt64] _
  refine z_iconst hx (v := nI 1) dX6_isCode_14 (by decide +kernel) ?_
  refine z_isub_n hx (by omega) dX6_isCode_15 ?_
  refine z_i2l hx dX6_isCode_16 ?_
  refine z_callS hx (As := [.long t.toInt64, .long 0, .long ((nI ((10 ^ (w + 1)) - 1)).toInt64)]) (st := []) (k_X6_in hI M t.toInt64 0 ((nI ((10 ^ (w + 1)) - 1)).toInt64)) zw_654 zy_X6_in ⟨rfl, rfl⟩ (by decide) rfl rfl (Nat.le_of_ble_eq_true rfl) dX6_isCode_17 ?_
  rintro _ M17 ⟨v17, rfl, q17⟩
  obtain ⟨q17, hmm⟩ := q17
  rw [hmm]
  rw [zin_x (m := 10 ^ (w + 1) - 1) (by omega) (nI_l (by omega))] at q17
  rcases q17 with ⟨q17, rfl⟩ | ⟨q17, rfl⟩
  · skip
    show zJ E x 20 _ [.int (nI 1)] _
    obtain ⟨c, hcm, rfl⟩ := zle_nI (by omega) (znot q17).1 (Classical.not_not.mp (znot q17).2)
    have hc31 : c < 2 ^ 31 := by omega
    refine z_istore_n hx (lv2 := [(2, .int (nI 1)), (0, .ref (E.2.2.2 32)), (1, .int (nI c))]) dX6_isCode_20 rfl (by decide) rfl ?_
    refine z_iconst hx (v := nI 0) dX6_isCode_21 (by decide +kernel) ?_
    refine z_istore_n hx (lv2 := [(3, .int (nI 0)), (2, .int (nI 1)), (0, .ref (E.2.2.2 32)), (1, .int (nI c))]) dX6_isCode_22 rfl (by decide) rfl ?_
    have loop23 : ∀ (fuel23 : Nat) (k b : Nat) (_ : k ≤ w + 1) (_ : b ≤ 1) (_ : b = 1 ↔ ∀ j, j < k → c / 10 ^ j % 10 ≤ 2), w + 1 - k < fuel23 → zJ E x 23 [(3, .int (nI k)), (2, .int (nI b)), (0, .ref (E.2.2.2 32)), (1, .int (nI c))] [] M := by
      intro fuel23
      induction fuel23 with
      | zero =>
        intros; omega
      | succ fuel23 ih23 =>
        intro k b hk hb hd hfuel23
        refine z_iload_n hx 0 dX6_isCode_23 rfl rfl ?_
        refine z_aload_n hx 2 dX6_isCode_24 rfl rfl ?_
        refine zg_X6_4 hx zw_580 dX6_isCode_25 ?_
        refine z_eqi (b := nI w) hW ?_
        refine z_icmp_gt_n (tgt := 62) hx (by omega) (by omega) dX6_isCode_28 (by decide) (fun h28 => ?_) (fun h28 => ?_)
        · skip
          refine z_iload_n hx 1 dX6_isCode_62 rfl rfl ?_
          exact rz _ _ _ _ rfl (zb01 (by omega)) ⟨_, rfl, ⟨by
              by_cases e : b = 1
              · exact Or.inl ⟨(zisC_nI hc31).mpr ⟨by omega, fun j hj => hd.mp e j (by omega)⟩, by rw [e]⟩
              · exact Or.inr ⟨Bool.eq_false_iff.mpr (fun z => e (hd.mpr (fun j hj => ((zisC_nI hc31).mp z).2 j (by omega)))), by rw [show b = 0 by omega]⟩, rfl⟩⟩ dX6_isCode_63
        · skip
          refine z_iload_n hx 1 dX6_isCode_31 rfl rfl ?_
          refine z_if_eq_n (tgt := 62) hx (by omega) dX6_isCode_32 (by decide) (fun h32 => ?_) (fun h32 => ?_)
          · skip
            have hb0 : b = 0 := h32
            refine z_iload_n hx 1 dX6_isCode_62 rfl rfl ?_
            exact rz _ _ _ _ rfl (zb01 (by omega)) ⟨_, rfl, ⟨Or.inr ⟨Bool.eq_false_iff.mpr (fun z => absurd (hd.mpr (fun j hj => ((zisC_nI hc31).mp z).2 j (by omega))) (by omega)), by rw [hb0]⟩, rfl⟩⟩ dX6_isCode_63
          · skip
            have hb1 : b = 1 := by omega
            refine z_iload_n hx 3 dX6_isCode_35 rfl rfl ?_
            refine z_bipush hx (v := nI 10) dX6_isCode_36 (by decide +kernel) ?_
            refine z_iload_n hx 0 dX6_isCode_38 rfl rfl ?_
            refine z_callS hx (As := [.int (nI 10), .int (nI k)]) (st := [.int (nI c)]) (k_X6_power hI M 10 k (by omega)) zw_712 zy_X6_power ⟨rfl, rfl⟩ (by decide) rfl rfl (Nat.le_of_ble_eq_true rfl) dX6_isCode_39 ?_
            rintro _ M39 ⟨v39, rfl, q39⟩
            obtain ⟨rfl, q39⟩ := q39
            rw [q39]
            show zJ E x 42 _ [.int (nI (10 ^ k)), .int (nI c)] _
            have hpk := zp10 (n := k) (by omega)
            have hdk := Nat.div_le_self c (10 ^ k)
            refine z_idiv_n hx (by omega) (by omega) (by omega) dX6_isCode_42 ?_
            refine z_bipush hx (v := nI 10) dX6_isCode_43 (by decide +kernel) ?_
            refine z_irem_n hx (by omega) (by omega) (by omega) dX6_isCode_45 ?_
            refine z_iconst hx (v := nI 3) dX6_isCode_46 (by decide +kernel) ?_
            refine z_icmp_ge_n (tgt := 54) hx (by omega) (by omega) dX6_isCode_47 (by decide) (fun h47 => ?_) (fun h47 => ?_)
            · skip
              refine z_iconst hx (v := nI 0) dX6_isCode_54 (by decide +kernel) ?_
              refine z_istore_n hx (lv2 := [(2, .int (nI 0)), (3, .int (nI k)), (0, .ref (E.2.2.2 32)), (1, .int (nI c))]) dX6_isCode_55 rfl (by decide) rfl ?_
              refine z_iinc hx (w := nI (k + 1)) (lv2 := [(3, .int (nI (k + 1))), (2, .int (nI 0)), (0, .ref (E.2.2.2 32)), (1, .int (nI c))]) 1 dX6_isCode_56 rfl (z_inc _) (by decide) rfl ?_
              refine z_goto (tgt := 23) hx dX6_isCode_59 (by decide) ?_
              exact z_to (ih23 (k + 1) 0 (by omega) (by omega) (Iff.intro (fun z => absurd z (by decide)) (fun z => absurd (z k (by omega)) (by omega))) (by omega)) [0, 1, 2, 3] rfl rfl
            · skip
              refine z_iconst hx (v := nI 1) dX6_isCode_50 (by decide +kernel) ?_
              refine z_goto (tgt := 55) hx dX6_isCode_51 (by decide) ?_
              refine z_istore_n hx (lv2 := [(2, .int (nI 1)), (3, .int (nI k)), (0, .ref (E.2.2.2 32)), (1, .int (nI c))]) dX6_isCode_55 rfl (by decide) rfl ?_
              refine z_iinc hx (w := nI (k + 1)) (lv2 := [(3, .int (nI (k + 1))), (2, .int (nI 1)), (0, .ref (E.2.2.2 32)), (1, .int (nI c))]) 1 dX6_isCode_56 rfl (z_inc _) (by decide) rfl ?_
              refine z_goto (tgt := 23) hx dX6_isCode_59 (by decide) ?_
              exact z_to (ih23 (k + 1) 1 (by omega) (by omega) (Iff.intro (fun _ j hj => by rcases Nat.lt_or_ge j k with z | z; exact hd.mp hb1 j z; rw [show j = k by omega]; omega) (fun _ => rfl)) (by omega)) [0, 1, 2, 3] rfl rfl
    exact z_to (loop23 _ 0 1 (by omega) (by omega) (Iff.intro (fun _ j hj => by omega) (fun _ => rfl)) (Nat.lt_succ_self _)) [0, 1, 2, 3] rfl rfl
  · skip
    show zJ E x 20 _ [.int (nI 0)] _
    refine z_istore_n hx (lv2 := [(2, .int (nI 0)), (0, .ref (E.2.2.2 32)), (1, .int t)]) dX6_isCode_20 rfl (by decide) rfl ?_
    refine z_iconst hx (v := nI 0) dX6_isCode_21 (by decide +kernel) ?_
    refine z_istore_n hx (lv2 := [(3, .int (nI 0)), (2, .int (nI 0)), (0, .ref (E.2.2.2 32)), (1, .int t)]) dX6_isCode_22 rfl (by decide) rfl ?_
    refine z_iload_n hx 0 dX6_isCode_23 rfl rfl ?_
    refine z_aload_n hx 2 dX6_isCode_24 rfl rfl ?_
    refine zg_X6_4 hx zw_580 dX6_isCode_25 ?_
    refine z_eqi (b := nI w) hW ?_
    refine z_icmp_gt_n (tgt := 62) hx (by omega) (by omega) dX6_isCode_28 (by decide) (fun h28 => ?_) (fun h28 => ?_)
    · skip
      omega
    · skip
      refine z_iload_n hx 1 dX6_isCode_31 rfl rfl ?_
      refine z_if_eq_n (tgt := 62) hx (by decide) dX6_isCode_32 (by decide) (fun _ => ?_) (fun h => absurd h (by decide))
      refine z_iload_n hx 1 dX6_isCode_62 rfl rfl ?_
      exact rz _ _ _ _ rfl (zb01 (by omega)) ⟨_, rfl, ⟨Or.inr ⟨Bool.eq_false_iff.mpr (fun z => by
          obtain ⟨k, hk31, rfl, hkc⟩ := zisC_ex z
          have := hkc.1
          exact q17 (by rintro (z | z); exact nI_pos hk31 z; exact z ((nI_leI hk31 (by omega)).mpr (by omega)))), rfl⟩, rfl⟩⟩ dX6_isCode_63
set_option maxHeartbeats 4000000 in
set_option maxRecDepth 100000 in
theorem k_X6_takeOn {E : zE} (hI : zI E) (M : zM) {p w n mm t : Nat} {cd : Nat → Nat} {rd : Nat → Int} (hp : zPc p) (h : zPf (M.1 p) (w, n, mm, cd, rd)) (hn8 : n ≤ 8) (ht : t < n) : zK E yX6_takeOn (.code yX6_takeOn cX6_takeOn 3 none) (zrm 0 0) [.ref (E.2.2.2 p), .int (nI t)] M (zpv (fun M2 => zPf (M2.1 p) (zrmv (w, n, mm, cd, rd) t) ∧ zfr (fun c => c = p) M M2)) := by
  refine zK_of hI (by decide) (Nat.le_of_ble_eq_true rfl) (fun x hx ri rz rl rv => ?_)
  show zJ E x 0 [(0, .ref (E.2.2.2 p)), (1, .int (nI t))] [] M
  have hp2 := id hp
  unfold zPc at hp2
  refine z_aload_n hx 0 dX6_takeOn_0 rfl rfl ?_
  refine z_iconst hx (v := nI 1) dX6_takeOn_1 (by decide +kernel) ?_
  refine z_dup2_11 hx dX6_takeOn_2 rfl rfl ?_
  refine z_iald_n hx (zIA_p hp E) (by omega) dX6_takeOn_3 ?_
  refine z_eqi (b := nI n) h.2.1 ?_
  refine z_iconst hx (v := nI 1) dX6_takeOn_4 (by decide +kernel) ?_
  refine z_isub_n hx (by omega) dX6_takeOn_5 ?_
  refine z_iast_n hx (zIA_p hp E) (by omega) dX6_takeOn_6 ?_
  refine z_iload_n hx 1 dX6_takeOn_7 rfl rfl ?_
  refine z_istore_n hx (lv2 := [(2, .int (nI t)), (0, .ref (E.2.2.2 p)), (1, .int (nI t))]) dX6_takeOn_8 rfl (by decide) rfl ?_
  have loop9 : ∀ (fuel9 : Nat) (k : Nat) (N : zM) (_ : t ≤ k) (_ : k < n) (_ : zfr (fun c => c = p) M N) (_ : N.1 p 0 = M.1 p 0) (_ : N.1 p 1 = nI (n - 1)) (_ : (∀ j, j < 8 → N.1 p (2 + j) = (if t ≤ j ∧ j < k then M.1 p (2 + j + 1) else M.1 p (2 + j)) ∧ N.1 p (10 + j) = (if t ≤ j ∧ j < k then M.1 p (10 + j + 1) else M.1 p (10 + j)))), n - k < fuel9 → zJ E x 9 [(2, .int (nI k)), (0, .ref (E.2.2.2 p)), (1, .int (nI t))] [] N := by
    intro fuel9
    induction fuel9 with
    | zero =>
      intros; omega
    | succ fuel9 ih9 =>
      intro k N htk hk hNf hN0 hN1 hN2 hfuel9
      refine z_iload_n hx 0 dX6_takeOn_9 rfl rfl ?_
      refine z_aload_n hx 1 dX6_takeOn_10 rfl rfl ?_
      refine z_iconst hx (v := nI 1) dX6_takeOn_11 (by decide +kernel) ?_
      refine z_iald_n hx (zIA_p hp E) (by omega) dX6_takeOn_12 ?_
      refine z_eqi (b := nI (n - 1)) hN1 ?_
      refine z_icmp_ge_n (tgt := 48) hx (by omega) (by omega) dX6_takeOn_13 (by decide) (fun h13 => ?_) (fun h13 => ?_)
      · skip
        exact rv _ _ _ rfl ⟨rfl, ⟨⟨hN0.trans h.1, hN1, fun j hj => by
            have hj2 : j < n - 1 := hj
            have q := hN2 j (by omega)
            show N.1 p (2 + j) = nI (if t ≤ j then cd (j + 1) else cd j) ∧ N.1 p (10 + j) = Int32.ofInt (if t ≤ j then rd (j + 1) else rd j)
            by_cases e : t ≤ j
            · rw [if_pos e, if_pos e, q.1, q.2, if_pos (by omega), if_pos (by omega)]
              exact h.2.2 (j + 1) (by show j + 1 < n; omega)
            · rw [if_neg e, if_neg e, q.1, q.2, if_neg (by omega), if_neg (by omega)]
              exact h.2.2 j (by show j < n; omega)⟩, hNf⟩⟩ dX6_takeOn_48
      · skip
        refine z_aload_n hx 1 dX6_takeOn_16 rfl rfl ?_
        refine z_iconst hx (v := nI 2) dX6_takeOn_17 (by decide +kernel) ?_
        refine z_iload_n hx 0 dX6_takeOn_18 rfl rfl ?_
        refine z_iadd_n hx dX6_takeOn_19 ?_
        refine z_aload_n hx 1 dX6_takeOn_20 rfl rfl ?_
        refine z_iconst hx (v := nI 2) dX6_takeOn_21 (by decide +kernel) ?_
        refine z_iload_n hx 0 dX6_takeOn_22 rfl rfl ?_
        refine z_iadd_n hx dX6_takeOn_23 ?_
        refine z_iconst hx (v := nI 1) dX6_takeOn_24 (by decide +kernel) ?_
        refine z_iadd_n hx dX6_takeOn_25 ?_
        refine z_iald_n hx (zIA_p hp E) (by omega) dX6_takeOn_26 ?_
        refine z_iast_n hx (zIA_p hp E) (by omega) dX6_takeOn_27 ?_
        refine z_aload_n hx 1 dX6_takeOn_28 rfl rfl ?_
        refine z_bipush hx (v := nI 10) dX6_takeOn_29 (by decide +kernel) ?_
        refine z_iload_n hx 0 dX6_takeOn_31 rfl rfl ?_
        refine z_iadd_n hx dX6_takeOn_32 ?_
        refine z_aload_n hx 1 dX6_takeOn_33 rfl rfl ?_
        refine z_bipush hx (v := nI 10) dX6_takeOn_34 (by decide +kernel) ?_
        refine z_iload_n hx 0 dX6_takeOn_36 rfl rfl ?_
        refine z_iadd_n hx dX6_takeOn_37 ?_
        refine z_iconst hx (v := nI 1) dX6_takeOn_38 (by decide +kernel) ?_
        refine z_iadd_n hx dX6_takeOn_39 ?_
        refine z_iald_n hx (zIA_p hp E) (by omega) dX6_takeOn_40 ?_
        refine z_iast_n hx (zIA_p hp E) (by omega) dX6_takeOn_41 ?_
        refine z_iinc hx (w := nI (k + 1)) (lv2 := [(2, .int (nI (k + 1))), (0, .ref (E.2.2.2 p)), (1, .int (nI t))]) 0 dX6_takeOn_42 rfl (z_inc _) (by decide) rfl ?_
        refine z_goto (tgt := 9) hx dX6_takeOn_45 (by decide) ?_
        exact z_to (ih9 (k + 1) (zputI (zputI N p (2 + k) (N.1 p ((2 + k) + 1))) p (10 + k) ((zputI N p (2 + k) (N.1 p ((2 + k) + 1))).1 p ((10 + k) + 1))) (by omega) (by omega) (zfr_tr hNf (zfr_tr (zfr_putI rfl) (zfr_putI rfl))) (zskK (by omega) (zskK (by omega) hN0)) (zskK (by omega) (zskK (by omega) hN1)) (fun j hj => by
            have q := hN2 j hj
            by_cases e : j = k
            · subst e
              have hk7 := hN2 (j + 1) (by omega)
              rw [if_pos ⟨by omega, by omega⟩, if_pos ⟨by omega, by omega⟩]
              refine ⟨zskK (by omega) (zhtI.trans ?_), zhtI.trans ?_⟩
              · have z := hk7.1
                rw [if_neg (by omega)] at z
                exact z
              · have z := hk7.2
                rw [if_neg (by omega)] at z
                exact zskK (by omega) z
            · have e4 : (t ≤ j ∧ j < k + 1) ↔ (t ≤ j ∧ j < k) := by omega
              simp only [e4]
              exact ⟨zskK (by omega) (zskK (by omega) q.1), zskK (by omega) (zskK (by omega) q.2)⟩) (by omega)) [0, 1, 2] rfl rfl
  exact z_to (loop9 _ t (zputI M p 1 (nI (n - 1))) (Nat.le_refl _) ht (zfr_putI rfl) (zskK (by omega) rfl) zhtI (fun j hj => by rw [if_neg (by omega), if_neg (by omega)]; exact ⟨zskK (by omega) rfl, zskK (by omega) rfl⟩) (Nat.lt_succ_self _)) [0, 1, 2] rfl rfl
set_option maxHeartbeats 4000000 in
set_option maxRecDepth 100000 in
theorem k_X6_swapOn {E : zE} (hI : zI E) (M : zM) {p w n mm i j : Nat} {cd : Nat → Nat} {rd : Nat → Int} (hp : zPc p) (h : zPf (M.1 p) (w, n, mm, cd, rd)) (hn8 : n ≤ 8) (hi : i < n) (hj : j < n) (hij : ¬ i = j) : zK E yX6_swapOn (.code yX6_swapOn cX6_swapOn 5 none) (zrm 0 0) [.ref (E.2.2.2 p), .int (nI i), .int (nI j)] M (zpv (fun M2 => zPf (M2.1 p) (w, n, mm, zexch cd i j, zexch rd i j) ∧ zfr (fun c => c = p) M M2)) := by
  refine zK_of hI (by decide) (Nat.le_of_ble_eq_true rfl) (fun x hx ri rz rl rv => ?_)
  show zJ E x 0 [(0, .ref (E.2.2.2 p)), (1, .int (nI i)), (2, .int (nI j))] [] M
  have hp2 := id hp
  unfold zPc at hp2
  refine z_aload_n hx 0 dX6_swapOn_0 rfl rfl ?_
  refine z_iconst hx (v := nI 2) dX6_swapOn_1 (by decide +kernel) ?_
  refine z_iload_n hx 1 dX6_swapOn_2 rfl rfl ?_
  refine z_iadd_n hx dX6_swapOn_3 ?_
  refine z_iald_n hx (zIA_p hp E) (by omega) dX6_swapOn_4 ?_
  refine z_istore_n hx (lv2 := [(3, .int (M.1 p (2 + i))), (0, .ref (E.2.2.2 p)), (1, .int (nI i)), (2, .int (nI j))]) dX6_swapOn_5 rfl (by decide) rfl ?_
  refine z_aload_n hx 1 dX6_swapOn_6 rfl rfl ?_
  refine z_iconst hx (v := nI 2) dX6_swapOn_7 (by decide +kernel) ?_
  refine z_iload_n hx 2 dX6_swapOn_8 rfl rfl ?_
  refine z_iadd_n hx dX6_swapOn_9 ?_
  refine z_aload_n hx 1 dX6_swapOn_10 rfl rfl ?_
  refine z_iconst hx (v := nI 2) dX6_swapOn_11 (by decide +kernel) ?_
  refine z_iload_n hx 3 dX6_swapOn_12 rfl rfl ?_
  refine z_iadd_n hx dX6_swapOn_13 ?_
  refine z_iald_n hx (zIA_p hp E) (by omega) dX6_swapOn_14 ?_
  refine z_iast_n hx (zIA_p hp E) (by omega) dX6_swapOn_15 ?_
  refine z_aload_n hx 1 dX6_swapOn_16 rfl rfl ?_
  refine z_iconst hx (v := nI 2) dX6_swapOn_17 (by decide +kernel) ?_
  refine z_iload_n hx 3 dX6_swapOn_18 rfl rfl ?_
  refine z_iadd_n hx dX6_swapOn_19 ?_
  refine z_iload_n hx 0 dX6_swapOn_20 rfl rfl ?_
  refine z_iast_n hx (zIA_p hp E) (by omega) dX6_swapOn_21 ?_
  refine z_aload_n hx 1 dX6_swapOn_22 rfl rfl ?_
  refine z_bipush hx (v := nI 10) dX6_swapOn_23 (by decide +kernel) ?_
  refine z_iload_n hx 2 dX6_swapOn_25 rfl rfl ?_
  refine z_iadd_n hx dX6_swapOn_26 ?_
  refine z_iald_n hx (zIA_p hp E) (by omega) dX6_swapOn_27 ?_
  refine z_eqi (b := M.1 p (10 + i)) (zskK (by omega) (zskK (by omega) rfl)) ?_
  refine z_istore hx (lv2 := [(4, .int (M.1 p (10 + i))), (3, .int (M.1 p (2 + i))), (0, .ref (E.2.2.2 p)), (1, .int (nI i)), (2, .int (nI j))]) dX6_swapOn_28 (by decide) rfl ?_
  refine z_aload_n hx 2 dX6_swapOn_30 rfl rfl ?_
  refine z_bipush hx (v := nI 10) dX6_swapOn_31 (by decide +kernel) ?_
  refine z_iload_n hx 3 dX6_swapOn_33 rfl rfl ?_
  refine z_iadd_n hx dX6_swapOn_34 ?_
  refine z_aload_n hx 2 dX6_swapOn_35 rfl rfl ?_
  refine z_bipush hx (v := nI 10) dX6_swapOn_36 (by decide +kernel) ?_
  refine z_iload_n hx 4 dX6_swapOn_38 rfl rfl ?_
  refine z_iadd_n hx dX6_swapOn_39 ?_
  refine z_iald_n hx (zIA_p hp E) (by omega) dX6_swapOn_40 ?_
  refine z_eqi (b := M.1 p (10 + j)) (zskK (by omega) (zskK (by omega) rfl)) ?_
  refine z_iast_n hx (zIA_p hp E) (by omega) dX6_swapOn_41 ?_
  refine z_aload_n hx 2 dX6_swapOn_42 rfl rfl ?_
  refine z_bipush hx (v := nI 10) dX6_swapOn_43 (by decide +kernel) ?_
  refine z_iload_n hx 4 dX6_swapOn_45 rfl rfl ?_
  refine z_iadd_n hx dX6_swapOn_46 ?_
  refine z_iload hx 0 dX6_swapOn_47 rfl ?_
  refine z_iast_n hx (zIA_p hp E) (by omega) dX6_swapOn_49 ?_
  exact rv _ _ _ rfl ⟨rfl, ⟨zPf_exch h hi hj hn8 hij, zfr_tr (zfr_tr (zfr_tr (zfr_putI rfl) (zfr_putI rfl)) (zfr_putI rfl)) (zfr_putI rfl)⟩⟩ dX6_swapOn_50
set_option maxHeartbeats 4000000 in
set_option maxRecDepth 100000 in
theorem k_X6_weigh {E : zE} (hI : zI E) (M : zM) {σ : zSt} (hσ : zMs M σ) (hk : zSk σ) (c z : Int32) : zK E yX6_weigh (.code yX6_weigh cX6_weigh 3 (some .int)) (zrm 2 48) [.ref (E.2.2.2 32), .int c, .int z] M (zpi (fun v M2 => v = (zop_weigh σ c z).1 ∧ zMs M2 (zop_weigh σ c z).2 ∧ zfN M M2)) := by
  refine zK_of hI (by decide) (Nat.le_of_ble_eq_true rfl) (fun x hx ri rz rl rv => ?_)
  show zJ E x 0 [(0, .ref (E.2.2.2 32)), (1, .int c), (2, .int z)] [] M
  obtain ⟨tx, len, ⟨w, n, mm, cd, rd⟩, as, s, sl, sd⟩ := σ
  have hσ2 := hσ
  obtain ⟨⟨hL, hT⟩, hW, hP, ⟨hs, hA⟩, hS, hsd⟩ := hσ
  have hv := hk.1
  have hw4 : 1 ≤ w ∧ w ≤ 4 := hv.1
  have hmm : mm ≤ 99 := hv.2.1
  have hn8 : n ≤ 8 := hv.2.2.1
  have hlen : len ≤ 90 := hk.2.1.1
  have hs14 : s ≤ 14 := hk.2.2.1
  have hL : M.1 32 2 = nI len := hL
  have hW : M.1 32 4 = nI w := hW
  have hs : M.1 32 11 = nI s := hs
  have hsd : M.2 32 14 = sd := hsd
  have hP0 : M.1 35 0 = nI mm := hP.1
  have hP1 : M.1 35 1 = nI n := hP.2.1
  have hP2 : ∀ t, t < n → M.1 35 (2 + t) = nI (cd t) ∧ M.1 35 (10 + t) = Int32.ofInt (rd t) := hP.2.2
  have hT : ∀ k, k < 90 → M.1 33 k = nI (tx k) := hT
  refine z_aload_n hx 0 dX6_weigh_0 rfl rfl ?_
  refine z_iconst hx (v := nI 0) dX6_weigh_1 (by decide +kernel) ?_
  refine zp_X6_0 hx zw_576 dX6_weigh_2 ?_
  refine z_aload_n hx 0 dX6_weigh_5 rfl rfl ?_
  refine z_iload_n hx 1 dX6_weigh_6 rfl rfl ?_
  refine z_callV hx (As := [.int c]) (st := []) (k_X6_isCode hI (zputI M 32 0 (nI 0)) (w := w) (zskK (by omega) hW) (by omega) c) zw_708 zy_X6_isCode ⟨rfl, rfl⟩ (by decide) (zOB_X6 E) rfl rfl rfl rfl (Nat.le_of_ble_eq_true rfl) dX6_weigh_7 ?_
  rintro _ M7 ⟨v7, rfl, q7⟩
  obtain ⟨q7, hmm⟩ := q7
  rw [hmm]
  rcases q7 with ⟨q7, rfl⟩ | ⟨q7, rfl⟩
  · skip
    show zJ E x 10 _ [.int (nI 1)] _
    refine z_if_eq_n (tgt := 27) hx (by decide) dX6_weigh_10 (by decide) (fun h => absurd h (by decide)) (fun _ => ?_)
    refine z_iload_n hx 2 dX6_weigh_13 rfl rfl ?_
    refine z_i2l hx dX6_weigh_14 ?_
    refine z_ldc2 hx zw_715 dX6_weigh_15 ?_
    refine z_ldc2 hx zw_716 dX6_weigh_18 ?_
    refine z_callS hx (As := [.long z.toInt64, .long (-999), .long (999)]) (st := []) (k_X6_in hI (zputI M 32 0 (nI 0)) z.toInt64 (-999) (999)) zw_654 zy_X6_in ⟨rfl, rfl⟩ (by decide) rfl rfl (Nat.le_of_ble_eq_true rfl) dX6_weigh_21 ?_
    rintro _ M21 ⟨v21, rfl, q21⟩
    obtain ⟨q21, hmm⟩ := q21
    rw [hmm]
    rw [zin_r] at q21
    rcases q21 with ⟨q21, rfl⟩ | ⟨q21, rfl⟩
    · skip
      show zJ E x 24 _ [.int (nI 1)] _
      refine z_if_ne_n (tgt := 30) hx (by decide) dX6_weigh_24 (by decide) (fun _ => ?_) (fun h => absurd h (by decide))
      refine z_aload_n hx 0 dX6_weigh_30 rfl rfl ?_
      refine zg_X6_7 hx zw_583 dX6_weigh_31 ?_
      refine z_iconst hx (v := nI 1) dX6_weigh_34 (by decide +kernel) ?_
      refine z_iald_n hx (zIA_35 E) (by omega) dX6_weigh_35 ?_
      refine z_eqi (b := nI n) (zskI (by omega) hP1) ?_
      refine z_bipush hx (v := nI 8) dX6_weigh_36 (by decide +kernel) ?_
      refine z_icmp_ne_n (tgt := 44) hx (by omega) (by omega) dX6_weigh_38 (by decide) (fun h38 => ?_) (fun h38 => ?_)
      · skip
        refine z_aload_n hx 0 dX6_weigh_44 rfl rfl ?_
        refine z_callV hx (As := []) (st := []) (kc_note hI (zputI M 32 0 (nI 0)) (zMs_t hσ2) hk) zw_717 zy_X6_note ⟨rfl, rfl⟩ (by decide) (zOB_X6 E) rfl rfl rfl rfl (Nat.le_of_ble_eq_true rfl) dX6_weigh_45 ?_
        rintro _ M45 ⟨rfl, q45⟩
        have hQ : zPf (M45.1 35) (w, n, mm, cd, rd) := by rw [(zfm_c q45.2 (by omega) (by omega)).1]; exact hP
        have hQ0 : M45.1 35 0 = nI mm := hQ.1
        have hQ1 : M45.1 35 1 = nI n := hQ.2.1
        have hQ2 : ∀ t, t < n → M45.1 35 (2 + t) = nI (cd t) ∧ M45.1 35 (10 + t) = Int32.ofInt (rd t) := hQ.2.2
        show zJ E x 48 _ [] _
        refine z_aload_n hx 0 dX6_weigh_48 rfl rfl ?_
        refine zg_X6_7 hx zw_583 dX6_weigh_49 ?_
        refine z_iconst hx (v := nI 2) dX6_weigh_52 (by decide +kernel) ?_
        refine z_aload_n hx 0 dX6_weigh_53 rfl rfl ?_
        refine zg_X6_7 hx zw_583 dX6_weigh_54 ?_
        refine z_iconst hx (v := nI 1) dX6_weigh_57 (by decide +kernel) ?_
        refine z_iald_n hx (zIA_35 E) (by omega) dX6_weigh_58 ?_
        refine z_eqi (b := nI n) hQ1 ?_
        refine z_iadd_n hx dX6_weigh_59 ?_
        refine z_iload_n hx 1 dX6_weigh_60 rfl rfl ?_
        refine z_iast_n hx (zIA_35 E) (by omega) dX6_weigh_61 ?_
        refine z_aload_n hx 0 dX6_weigh_62 rfl rfl ?_
        refine zg_X6_7 hx zw_583 dX6_weigh_63 ?_
        refine z_bipush hx (v := nI 10) dX6_weigh_66 (by decide +kernel) ?_
        refine z_aload_n hx 0 dX6_weigh_68 rfl rfl ?_
        refine zg_X6_7 hx zw_583 dX6_weigh_69 ?_
        refine z_iconst hx (v := nI 1) dX6_weigh_72 (by decide +kernel) ?_
        refine z_iald_n hx (zIA_35 E) (by omega) dX6_weigh_73 ?_
        refine z_eqi (b := nI n) (zskK (by omega) hQ1) ?_
        refine z_iadd_n hx dX6_weigh_74 ?_
        refine z_iload_n hx 2 dX6_weigh_75 rfl rfl ?_
        refine z_iast_n hx (zIA_35 E) (by omega) dX6_weigh_76 ?_
        refine z_aload_n hx 0 dX6_weigh_77 rfl rfl ?_
        refine zg_X6_7 hx zw_583 dX6_weigh_78 ?_
        refine z_iconst hx (v := nI 1) dX6_weigh_81 (by decide +kernel) ?_
        refine z_dup2_11 hx dX6_weigh_82 rfl rfl ?_
        refine z_iald_n hx (zIA_35 E) (by omega) dX6_weigh_83 ?_
        refine z_eqi (b := nI n) (zskK (by omega) (zskK (by omega) hQ1)) ?_
        refine z_iconst hx (v := nI 1) dX6_weigh_84 (by decide +kernel) ?_
        refine z_iadd_n hx dX6_weigh_85 ?_
        refine z_iast_n hx (zIA_35 E) (by omega) dX6_weigh_86 ?_
        refine z_aload_n hx 0 dX6_weigh_87 rfl rfl ?_
        refine zg_X6_7 hx zw_583 dX6_weigh_88 ?_
        refine z_iconst hx (v := nI 1) dX6_weigh_91 (by decide +kernel) ?_
        refine z_iald_n hx (zIA_35 E) (by omega) dX6_weigh_92 ?_
        refine z_eqi (b := nI (n + 1)) zhtI ?_
        exact ri _ _ _ _ rfl ⟨_, rfl, (by
            rw [zop_weigh, if_pos (by simp [*]), if_neg (by show ¬ 8 ≤ n; omega)]
            obtain ⟨k, hk31, rfl, hkc⟩ := zisC_ex q7
            rw [nI_clamp hk31]
            have hap := zPf_append (k := k) (z := z.toInt) hQ (by omega)
            rw [Int32.ofInt_toInt] at hap
            exact ⟨rfl, zMs_act hσ2 q45.1 q45.2 (zfr_tr (zfr_tr (zfr_putI rfl) (zfr_putI rfl)) (zfr_putI rfl)) hap rfl⟩)⟩ dX6_weigh_93
      · skip
        refine z_bipush hx (v := (-4)) dX6_weigh_41 rfl ?_
        exact ri _ _ _ _ rfl ⟨_, rfl, (by rw [zop_weigh, if_pos (by simp [*]), if_pos (by show 8 ≤ n; omega)]; exact ⟨rfl, zMs_t hσ2, zfN_t⟩)⟩ dX6_weigh_43
    · skip
      show zJ E x 24 _ [.int (nI 0)] _
      refine z_if_ne_n (tgt := 30) hx (by decide) dX6_weigh_24 (by decide) (fun h => absurd h (by decide)) (fun _ => ?_)
      refine z_bipush hx (v := (-2)) dX6_weigh_27 rfl ?_
      exact ri _ _ _ _ rfl ⟨_, rfl, (by rw [zop_weigh, if_neg (by simp [*])]; exact ⟨rfl, zMs_t hσ2, zfN_t⟩)⟩ dX6_weigh_29
  · skip
    show zJ E x 10 _ [.int (nI 0)] _
    refine z_if_eq_n (tgt := 27) hx (by decide) dX6_weigh_10 (by decide) (fun _ => ?_) (fun h => absurd h (by decide))
    refine z_bipush hx (v := (-2)) dX6_weigh_27 rfl ?_
    exact ri _ _ _ _ rfl ⟨_, rfl, (by rw [zop_weigh, if_neg (by simp [*])]; exact ⟨rfl, zMs_t hσ2, zfN_t⟩)⟩ dX6_weigh_29
set_option maxHeartbeats 4000000 in
set_option maxRecDepth 100000 in
theorem k_X6_take {E : zE} (hI : zI E) (M : zM) {σ : zSt} (hσ : zMs M σ) (hk : zSk σ) (t : Int32) : zK E yX6_take (.code yX6_take cX6_take 2 (some .int)) (zrm 2 46) [.ref (E.2.2.2 32), .int t] M (zpi (fun v M2 => v = (zop_take σ t).1 ∧ zMs M2 (zop_take σ t).2 ∧ zfN M M2)) := by
  refine zK_of hI (by decide) (Nat.le_of_ble_eq_true rfl) (fun x hx ri rz rl rv => ?_)
  show zJ E x 0 [(0, .ref (E.2.2.2 32)), (1, .int t)] [] M
  obtain ⟨tx, len, ⟨w, n, mm, cd, rd⟩, as, s, sl, sd⟩ := σ
  have hσ2 := hσ
  obtain ⟨⟨hL, hT⟩, hW, hP, ⟨hs, hA⟩, hS, hsd⟩ := hσ
  have hv := hk.1
  have hw4 : 1 ≤ w ∧ w ≤ 4 := hv.1
  have hmm : mm ≤ 99 := hv.2.1
  have hn8 : n ≤ 8 := hv.2.2.1
  have hlen : len ≤ 90 := hk.2.1.1
  have hs14 : s ≤ 14 := hk.2.2.1
  have hL : M.1 32 2 = nI len := hL
  have hW : M.1 32 4 = nI w := hW
  have hs : M.1 32 11 = nI s := hs
  have hsd : M.2 32 14 = sd := hsd
  have hP0 : M.1 35 0 = nI mm := hP.1
  have hP1 : M.1 35 1 = nI n := hP.2.1
  have hP2 : ∀ t, t < n → M.1 35 (2 + t) = nI (cd t) ∧ M.1 35 (10 + t) = Int32.ofInt (rd t) := hP.2.2
  have hT : ∀ k, k < 90 → M.1 33 k = nI (tx k) := hT
  refine z_aload_n hx 0 dX6_take_0 rfl rfl ?_
  refine z_iconst hx (v := nI 0) dX6_take_1 (by decide +kernel) ?_
  refine zp_X6_0 hx zw_576 dX6_take_2 ?_
  refine z_aload_n hx 0 dX6_take_5 rfl rfl ?_
  refine z_iload_n hx 1 dX6_take_6 rfl rfl ?_
  refine z_callV hx (As := [.int t]) (st := []) (k_X6_noWeighing hI (zputI M 32 0 (nI 0)) (n := n) (zskI (by omega) hP1) hn8 t) zw_696 zy_X6_noWeighing ⟨rfl, rfl⟩ (by decide) (zOB_X6 E) rfl rfl rfl rfl (Nat.le_of_ble_eq_true rfl) dX6_take_7 ?_
  rintro _ M7 ⟨v7, rfl, q7⟩
  obtain ⟨q7, hmm⟩ := q7
  rw [hmm]
  rcases q7 with ⟨j, hj, rfl, rfl⟩ | ⟨q7, rfl⟩
  · skip
    show zJ E x 10 _ [.int (nI 0)] _
    refine z_if_eq_n (tgt := 15) hx (by decide) dX6_take_10 (by decide) (fun _ => ?_) (fun h => absurd h (by decide))
    refine z_aload_n hx 0 dX6_take_15 rfl rfl ?_
    refine z_callV hx (As := []) (st := []) (kc_note hI (zputI M 32 0 (nI 0)) (zMs_t hσ2) hk) zw_717 zy_X6_note ⟨rfl, rfl⟩ (by decide) (zOB_X6 E) rfl rfl rfl rfl (Nat.le_of_ble_eq_true rfl) dX6_take_16 ?_
    rintro _ M16 ⟨rfl, q16⟩
    have hQ : zPf (M16.1 35) (w, n, mm, cd, rd) := by rw [(zfm_c q16.2 (by omega) (by omega)).1]; exact hP
    have hQ0 : M16.1 35 0 = nI mm := hQ.1
    have hQ1 : M16.1 35 1 = nI n := hQ.2.1
    have hQ2 : ∀ t, t < n → M16.1 35 (2 + t) = nI (cd t) ∧ M16.1 35 (10 + t) = Int32.ofInt (rd t) := hQ.2.2
    show zJ E x 19 _ [] _
    refine z_aload_n hx 0 dX6_take_19 rfl rfl ?_
    refine zg_X6_7 hx zw_583 dX6_take_20 ?_
    refine z_iload_n hx 1 dX6_take_23 rfl rfl ?_
    refine z_callS hx (As := [.ref (E.2.2.2 35), .int (nI j)]) (st := []) (k_X6_takeOn hI M16 zPc_35 hQ hn8 hj) zw_725 zy_X6_takeOn ⟨rfl, rfl⟩ (by decide) rfl rfl (Nat.le_of_ble_eq_true rfl) dX6_take_24 ?_
    rintro _ M24 ⟨rfl, q24⟩
    have hQ24 : M24.1 35 1 = nI (n - 1) := q24.1.2.1
    show zJ E x 27 _ [] _
    refine z_aload_n hx 0 dX6_take_27 rfl rfl ?_
    refine zg_X6_7 hx zw_583 dX6_take_28 ?_
    refine z_iconst hx (v := nI 1) dX6_take_31 (by decide +kernel) ?_
    refine z_iald_n hx (zIA_35 E) (by omega) dX6_take_32 ?_
    refine z_eqi (b := nI (n - 1)) hQ24 ?_
    exact ri _ _ _ _ rfl ⟨_, rfl, (by
        rw [zop_take, if_neg (zin_n hj hn8), nI_clamp (by omega)]
        exact ⟨rfl, zMs_act hσ2 q16.1 q16.2 q24.2 q24.1 rfl⟩)⟩ dX6_take_33
  · skip
    show zJ E x 10 _ [.int (nI 1)] _
    refine z_if_eq_n (tgt := 15) hx (by decide) dX6_take_10 (by decide) (fun h => absurd h (by decide)) (fun _ => ?_)
    refine z_iconst hx (v := (-1)) dX6_take_13 rfl ?_
    exact ri _ _ _ _ rfl ⟨_, rfl, (by rw [zop_take, if_pos q7]; exact ⟨rfl, zMs_t hσ2, zfN_t⟩)⟩ dX6_take_14
set_option maxHeartbeats 4000000 in
set_option maxRecDepth 100000 in
theorem k_X6_swap {E : zE} (hI : zI E) (M : zM) {σ : zSt} (hσ : zMs M σ) (hk : zSk σ) (t u : Int32) : zK E yX6_swap (.code yX6_swap cX6_swap 3 (some .int)) (zrm 2 46) [.ref (E.2.2.2 32), .int t, .int u] M (zpi (fun v M2 => v = (zop_swap σ t u).1 ∧ zMs M2 (zop_swap σ t u).2 ∧ zfN M M2)) := by
  refine zK_of hI (by decide) (Nat.le_of_ble_eq_true rfl) (fun x hx ri rz rl rv => ?_)
  show zJ E x 0 [(0, .ref (E.2.2.2 32)), (1, .int t), (2, .int u)] [] M
  obtain ⟨tx, len, ⟨w, n, mm, cd, rd⟩, as, s, sl, sd⟩ := σ
  have hσ2 := hσ
  obtain ⟨⟨hL, hT⟩, hW, hP, ⟨hs, hA⟩, hS, hsd⟩ := hσ
  have hv := hk.1
  have hw4 : 1 ≤ w ∧ w ≤ 4 := hv.1
  have hmm : mm ≤ 99 := hv.2.1
  have hn8 : n ≤ 8 := hv.2.2.1
  have hlen : len ≤ 90 := hk.2.1.1
  have hs14 : s ≤ 14 := hk.2.2.1
  have hL : M.1 32 2 = nI len := hL
  have hW : M.1 32 4 = nI w := hW
  have hs : M.1 32 11 = nI s := hs
  have hsd : M.2 32 14 = sd := hsd
  have hP0 : M.1 35 0 = nI mm := hP.1
  have hP1 : M.1 35 1 = nI n := hP.2.1
  have hP2 : ∀ t, t < n → M.1 35 (2 + t) = nI (cd t) ∧ M.1 35 (10 + t) = Int32.ofInt (rd t) := hP.2.2
  have hT : ∀ k, k < 90 → M.1 33 k = nI (tx k) := hT
  refine z_aload_n hx 0 dX6_swap_0 rfl rfl ?_
  refine z_iconst hx (v := nI 0) dX6_swap_1 (by decide +kernel) ?_
  refine zp_X6_0 hx zw_576 dX6_swap_2 ?_
  refine z_aload_n hx 0 dX6_swap_5 rfl rfl ?_
  refine z_iload_n hx 1 dX6_swap_6 rfl rfl ?_
  refine z_callV hx (As := [.int t]) (st := []) (k_X6_noWeighing hI (zputI M 32 0 (nI 0)) (n := n) (zskI (by omega) hP1) hn8 t) zw_696 zy_X6_noWeighing ⟨rfl, rfl⟩ (by decide) (zOB_X6 E) rfl rfl rfl rfl (Nat.le_of_ble_eq_true rfl) dX6_swap_7 ?_
  rintro _ M7 ⟨v7, rfl, q7⟩
  obtain ⟨q7, hmm⟩ := q7
  rw [hmm]
  rcases q7 with ⟨i, hi, rfl, rfl⟩ | ⟨q7, rfl⟩
  · skip
    show zJ E x 10 _ [.int (nI 0)] _
    refine z_if_ne_n (tgt := 21) hx (by decide) dX6_swap_10 (by decide) (fun h => absurd h (by decide)) (fun _ => ?_)
    refine z_aload_n hx 0 dX6_swap_13 rfl rfl ?_
    refine z_iload_n hx 2 dX6_swap_14 rfl rfl ?_
    refine z_callV hx (As := [.int u]) (st := []) (k_X6_noWeighing hI (zputI M 32 0 (nI 0)) (n := n) (zskI (by omega) hP1) hn8 u) zw_696 zy_X6_noWeighing ⟨rfl, rfl⟩ (by decide) (zOB_X6 E) rfl rfl rfl rfl (Nat.le_of_ble_eq_true rfl) dX6_swap_15 ?_
    rintro _ M15 ⟨v15, rfl, q15⟩
    obtain ⟨q15, hmm⟩ := q15
    rw [hmm]
    rcases q15 with ⟨j, hj, rfl, rfl⟩ | ⟨q15, rfl⟩
    · skip
      show zJ E x 18 _ [.int (nI 0)] _
      refine z_if_eq_n (tgt := 23) hx (by decide) dX6_swap_18 (by decide) (fun _ => ?_) (fun h => absurd h (by decide))
      refine z_iload_n hx 1 dX6_swap_23 rfl rfl ?_
      refine z_iload_n hx 2 dX6_swap_24 rfl rfl ?_
      refine z_icmp_ne_n (tgt := 31) hx (by omega) (by omega) dX6_swap_25 (by decide) (fun h25 => ?_) (fun h25 => ?_)
      · skip
        refine z_aload_n hx 0 dX6_swap_31 rfl rfl ?_
        refine z_callV hx (As := []) (st := []) (kc_note hI (zputI M 32 0 (nI 0)) (zMs_t hσ2) hk) zw_717 zy_X6_note ⟨rfl, rfl⟩ (by decide) (zOB_X6 E) rfl rfl rfl rfl (Nat.le_of_ble_eq_true rfl) dX6_swap_32 ?_
        rintro _ M32 ⟨rfl, q32⟩
        have hQ : zPf (M32.1 35) (w, n, mm, cd, rd) := by rw [(zfm_c q32.2 (by omega) (by omega)).1]; exact hP
        have hQ0 : M32.1 35 0 = nI mm := hQ.1
        have hQ1 : M32.1 35 1 = nI n := hQ.2.1
        have hQ2 : ∀ t, t < n → M32.1 35 (2 + t) = nI (cd t) ∧ M32.1 35 (10 + t) = Int32.ofInt (rd t) := hQ.2.2
        show zJ E x 35 _ [] _
        refine z_aload_n hx 0 dX6_swap_35 rfl rfl ?_
        refine zg_X6_7 hx zw_583 dX6_swap_36 ?_
        refine z_iload_n hx 1 dX6_swap_39 rfl rfl ?_
        refine z_iload_n hx 2 dX6_swap_40 rfl rfl ?_
        refine z_callS hx (As := [.ref (E.2.2.2 35), .int (nI i), .int (nI j)]) (st := []) (k_X6_swapOn hI M32 zPc_35 hQ hn8 hi hj h25) zw_732 zy_X6_swapOn ⟨rfl, rfl⟩ (by decide) rfl rfl (Nat.le_of_ble_eq_true rfl) dX6_swap_41 ?_
        rintro _ M41 ⟨rfl, q41⟩
        have hQ41 : M41.1 35 (2 + i) = nI (zexch cd i j i) := (q41.1.2.2 i hi).1
        show zJ E x 44 _ [] _
        refine z_aload_n hx 0 dX6_swap_44 rfl rfl ?_
        refine zg_X6_7 hx zw_583 dX6_swap_45 ?_
        refine z_iconst hx (v := nI 2) dX6_swap_48 (by decide +kernel) ?_
        refine z_iload_n hx 1 dX6_swap_49 rfl rfl ?_
        refine z_iadd_n hx dX6_swap_50 ?_
        refine z_iald_n hx (zIA_35 E) (by omega) dX6_swap_51 ?_
        refine z_eqi (b := nI (zexch cd i j i)) hQ41 ?_
        exact ri _ _ _ _ rfl ⟨_, rfl, (by
            rw [zop_swap, if_neg (by rintro (z | z); exact zin_n hi hn8 z; exact zin_n hj hn8 z), if_neg (fun z => h25 ((nI_eq (by omega) (by omega)).mp z)), nI_clamp (by omega), nI_clamp (by omega)]
            exact ⟨rfl, zMs_act hσ2 q32.1 q32.2 q41.2 q41.1 rfl⟩)⟩ dX6_swap_52
      · skip
        refine z_bipush hx (v := (-3)) dX6_swap_28 rfl ?_
        exact ri _ _ _ _ rfl ⟨_, rfl, (by rw [zop_swap, if_neg (by rintro (z | z); exact zin_n hi hn8 z; exact zin_n hj hn8 z), if_pos (by rw [h25])]; exact ⟨rfl, zMs_t hσ2, zfN_t⟩)⟩ dX6_swap_30
    · skip
      show zJ E x 18 _ [.int (nI 1)] _
      refine z_if_eq_n (tgt := 23) hx (by decide) dX6_swap_18 (by decide) (fun h => absurd h (by decide)) (fun _ => ?_)
      refine z_iconst hx (v := (-1)) dX6_swap_21 rfl ?_
      exact ri _ _ _ _ rfl ⟨_, rfl, (by rw [zop_swap, if_pos (by first | exact Or.inl q7 | exact Or.inr q15)]; exact ⟨rfl, zMs_t hσ2, zfN_t⟩)⟩ dX6_swap_22
  · skip
    show zJ E x 10 _ [.int (nI 1)] _
    refine z_if_ne_n (tgt := 21) hx (by decide) dX6_swap_10 (by decide) (fun _ => ?_) (fun h => absurd h (by decide))
    refine z_iconst hx (v := (-1)) dX6_swap_21 rfl ?_
    exact ri _ _ _ _ rfl ⟨_, rfl, (by rw [zop_swap, if_pos (by first | exact Or.inl q7 | exact Or.inr q15)]; exact ⟨rfl, zMs_t hσ2, zfN_t⟩)⟩ dX6_swap_22
set_option maxHeartbeats 4000000 in
set_option maxRecDepth 100000 in
theorem k_X6_read {E : zE} (hI : zI E) (M : zM) {σ : zSt} (hσ : zMs M σ) (hk : zSk σ) (t z : Int32) : zK E yX6_read (.code yX6_read cX6_read 4 (some .int)) (zrm 2 46) [.ref (E.2.2.2 32), .int t, .int z] M (zpi (fun v M2 => v = (zop_read σ t z).1 ∧ zMs M2 (zop_read σ t z).2 ∧ zfN M M2)) := by
  refine zK_of hI (by decide) (Nat.le_of_ble_eq_true rfl) (fun x hx ri rz rl rv => ?_)
  show zJ E x 0 [(0, .ref (E.2.2.2 32)), (1, .int t), (2, .int z)] [] M
  obtain ⟨tx, len, ⟨w, n, mm, cd, rd⟩, as, s, sl, sd⟩ := σ
  have hσ2 := hσ
  obtain ⟨⟨hL, hT⟩, hW, hP, ⟨hs, hA⟩, hS, hsd⟩ := hσ
  have hv := hk.1
  have hw4 : 1 ≤ w ∧ w ≤ 4 := hv.1
  have hmm : mm ≤ 99 := hv.2.1
  have hn8 : n ≤ 8 := hv.2.2.1
  have hlen : len ≤ 90 := hk.2.1.1
  have hs14 : s ≤ 14 := hk.2.2.1
  have hL : M.1 32 2 = nI len := hL
  have hW : M.1 32 4 = nI w := hW
  have hs : M.1 32 11 = nI s := hs
  have hsd : M.2 32 14 = sd := hsd
  have hP0 : M.1 35 0 = nI mm := hP.1
  have hP1 : M.1 35 1 = nI n := hP.2.1
  have hP2 : ∀ t, t < n → M.1 35 (2 + t) = nI (cd t) ∧ M.1 35 (10 + t) = Int32.ofInt (rd t) := hP.2.2
  have hT : ∀ k, k < 90 → M.1 33 k = nI (tx k) := hT
  refine z_aload_n hx 0 dX6_read_0 rfl rfl ?_
  refine z_iconst hx (v := nI 0) dX6_read_1 (by decide +kernel) ?_
  refine zp_X6_0 hx zw_576 dX6_read_2 ?_
  refine z_aload_n hx 0 dX6_read_5 rfl rfl ?_
  refine z_iload_n hx 1 dX6_read_6 rfl rfl ?_
  refine z_callV hx (As := [.int t]) (st := []) (k_X6_noWeighing hI (zputI M 32 0 (nI 0)) (n := n) (zskI (by omega) hP1) hn8 t) zw_696 zy_X6_noWeighing ⟨rfl, rfl⟩ (by decide) (zOB_X6 E) rfl rfl rfl rfl (Nat.le_of_ble_eq_true rfl) dX6_read_7 ?_
  rintro _ M7 ⟨v7, rfl, q7⟩
  obtain ⟨q7, hmm⟩ := q7
  rw [hmm]
  rcases q7 with ⟨j, hj, rfl, rfl⟩ | ⟨q7, rfl⟩
  · skip
    show zJ E x 10 _ [.int (nI 0)] _
    refine z_if_eq_n (tgt := 15) hx (by decide) dX6_read_10 (by decide) (fun _ => ?_) (fun h => absurd h (by decide))
    refine z_iload_n hx 2 dX6_read_15 rfl rfl ?_
    refine z_i2l hx dX6_read_16 ?_
    refine z_ldc2 hx zw_715 dX6_read_17 ?_
    refine z_ldc2 hx zw_716 dX6_read_20 ?_
    refine z_callS hx (As := [.long z.toInt64, .long (-999), .long (999)]) (st := []) (k_X6_in hI (zputI M 32 0 (nI 0)) z.toInt64 (-999) (999)) zw_654 zy_X6_in ⟨rfl, rfl⟩ (by decide) rfl rfl (Nat.le_of_ble_eq_true rfl) dX6_read_23 ?_
    rintro _ M23 ⟨v23, rfl, q23⟩
    obtain ⟨q23, hmm⟩ := q23
    rw [hmm]
    rw [zin_r] at q23
    rcases q23 with ⟨q23, rfl⟩ | ⟨q23, rfl⟩
    · skip
      show zJ E x 26 _ [.int (nI 1)] _
      refine z_if_ne_n (tgt := 32) hx (by decide) dX6_read_26 (by decide) (fun _ => ?_) (fun h => absurd h (by decide))
      refine z_aload_n hx 0 dX6_read_32 rfl rfl ?_
      refine z_callV hx (As := []) (st := []) (kc_note hI (zputI M 32 0 (nI 0)) (zMs_t hσ2) hk) zw_717 zy_X6_note ⟨rfl, rfl⟩ (by decide) (zOB_X6 E) rfl rfl rfl rfl (Nat.le_of_ble_eq_true rfl) dX6_read_33 ?_
      rintro _ M33 ⟨rfl, q33⟩
      have hQ : zPf (M33.1 35) (w, n, mm, cd, rd) := by rw [(zfm_c q33.2 (by omega) (by omega)).1]; exact hP
      have hQ0 : M33.1 35 0 = nI mm := hQ.1
      have hQ1 : M33.1 35 1 = nI n := hQ.2.1
      have hQ2 : ∀ t, t < n → M33.1 35 (2 + t) = nI (cd t) ∧ M33.1 35 (10 + t) = Int32.ofInt (rd t) := hQ.2.2
      show zJ E x 36 _ [] _
      refine z_aload_n hx 0 dX6_read_36 rfl rfl ?_
      refine zg_X6_7 hx zw_583 dX6_read_37 ?_
      refine z_bipush hx (v := nI 10) dX6_read_40 (by decide +kernel) ?_
      refine z_iload_n hx 1 dX6_read_42 rfl rfl ?_
      refine z_iadd_n hx dX6_read_43 ?_
      refine z_iald_n hx (zIA_35 E) (by omega) dX6_read_44 ?_
      refine z_eqi (b := Int32.ofInt (rd j)) (hQ2 j (by omega)).2 ?_
      refine z_istore_n hx (lv2 := [(3, .int (Int32.ofInt (rd j))), (0, .ref (E.2.2.2 32)), (1, .int (nI j)), (2, .int z)]) dX6_read_45 rfl (by decide) rfl ?_
      refine z_aload_n hx 1 dX6_read_46 rfl rfl ?_
      refine zg_X6_7 hx zw_583 dX6_read_47 ?_
      refine z_bipush hx (v := nI 10) dX6_read_50 (by decide +kernel) ?_
      refine z_iload_n hx 2 dX6_read_52 rfl rfl ?_
      refine z_iadd_n hx dX6_read_53 ?_
      refine z_iload_n hx 3 dX6_read_54 rfl rfl ?_
      refine z_iast_n hx (zIA_35 E) (by omega) dX6_read_55 ?_
      refine z_iload_n hx 0 dX6_read_56 rfl rfl ?_
      refine z_sipush hx (v := nI 1000) dX6_read_57 (by decide +kernel) ?_
      refine z_iadd hx dX6_read_60 ?_
      exact ri _ _ _ _ rfl ⟨_, rfl, (by
          rw [zop_read, if_neg (zin_n hj hn8), if_pos q23, nI_clamp (by omega)]
          have hap := zPf_read (j := j) (z := z.toInt) hQ hn8
          rw [Int32.ofInt_toInt] at hap
          exact ⟨rfl, zMs_act hσ2 q33.1 q33.2 (zfr_putI rfl) hap rfl⟩)⟩ dX6_read_61
    · skip
      show zJ E x 26 _ [.int (nI 0)] _
      refine z_if_ne_n (tgt := 32) hx (by decide) dX6_read_26 (by decide) (fun h => absurd h (by decide)) (fun _ => ?_)
      refine z_bipush hx (v := (-2)) dX6_read_29 rfl ?_
      exact ri _ _ _ _ rfl ⟨_, rfl, (by rw [zop_read, if_neg (zin_n hj hn8), if_neg q23]; exact ⟨rfl, zMs_t hσ2, zfN_t⟩)⟩ dX6_read_31
  · skip
    show zJ E x 10 _ [.int (nI 1)] _
    refine z_if_eq_n (tgt := 15) hx (by decide) dX6_read_10 (by decide) (fun h => absurd h (by decide)) (fun _ => ?_)
    refine z_iconst hx (v := (-1)) dX6_read_13 rfl ?_
    exact ri _ _ _ _ rfl ⟨_, rfl, (by rw [zop_read, if_pos q7]; exact ⟨rfl, zMs_t hσ2, zfN_t⟩)⟩ dX6_read_14
set_option maxHeartbeats 4000000 in
set_option maxRecDepth 100000 in
theorem k_X6_master {E : zE} (hI : zI E) (M : zM) {σ : zSt} (hσ : zMs M σ) (hk : zSk σ) (t : Int32) : zK E yX6_master (.code yX6_master cX6_master 3 (some .int)) (zrm 1 25) [.ref (E.2.2.2 32), .int t] M (zpi (fun v M2 => v = (zop_master σ t).1 ∧ zMs M2 (zop_master σ t).2 ∧ zfN M M2)) := by
  refine zK_of hI (by decide) (Nat.le_of_ble_eq_true rfl) (fun x hx ri rz rl rv => ?_)
  show zJ E x 0 [(0, .ref (E.2.2.2 32)), (1, .int t)] [] M
  obtain ⟨tx, len, ⟨w, n, mm, cd, rd⟩, as, s, sl, sd⟩ := σ
  have hσ2 := hσ
  obtain ⟨⟨hL, hT⟩, hW, hP, ⟨hs, hA⟩, hS, hsd⟩ := hσ
  have hv := hk.1
  have hw4 : 1 ≤ w ∧ w ≤ 4 := hv.1
  have hmm : mm ≤ 99 := hv.2.1
  have hn8 : n ≤ 8 := hv.2.2.1
  have hlen : len ≤ 90 := hk.2.1.1
  have hs14 : s ≤ 14 := hk.2.2.1
  have hL : M.1 32 2 = nI len := hL
  have hW : M.1 32 4 = nI w := hW
  have hs : M.1 32 11 = nI s := hs
  have hsd : M.2 32 14 = sd := hsd
  have hP0 : M.1 35 0 = nI mm := hP.1
  have hP1 : M.1 35 1 = nI n := hP.2.1
  have hP2 : ∀ t, t < n → M.1 35 (2 + t) = nI (cd t) ∧ M.1 35 (10 + t) = Int32.ofInt (rd t) := hP.2.2
  have hT : ∀ k, k < 90 → M.1 33 k = nI (tx k) := hT
  refine z_aload_n hx 0 dX6_master_0 rfl rfl ?_
  refine z_iconst hx (v := nI 0) dX6_master_1 (by decide +kernel) ?_
  refine zp_X6_0 hx zw_576 dX6_master_2 ?_
  refine z_iload_n hx 1 dX6_master_5 rfl rfl ?_
  refine z_i2l hx dX6_master_6 ?_
  refine z_lconst hx (v := 0) dX6_master_7 rfl ?_
  refine z_ldc2 hx zw_743 dX6_master_8 ?_
  refine z_callS hx (As := [.long t.toInt64, .long 0, .long (99)]) (st := []) (k_X6_in hI (zputI M 32 0 (nI 0)) t.toInt64 0 (99)) zw_654 zy_X6_in ⟨rfl, rfl⟩ (by decide) rfl rfl (Nat.le_of_ble_eq_true rfl) dX6_master_11 ?_
  rintro _ M11 ⟨v11, rfl, q11⟩
  obtain ⟨q11, hmm⟩ := q11
  rw [hmm]
  rw [zin_x (m := 99) (by decide) (by decide +kernel)] at q11
  rcases q11 with ⟨q11, rfl⟩ | ⟨q11, rfl⟩
  · skip
    show zJ E x 14 _ [.int (nI 1)] _
    obtain ⟨m, hm, rfl⟩ := zle_nI (by decide) (znot q11).1 (Classical.not_not.mp (znot q11).2)
    refine z_if_ne_n (tgt := 20) hx (by decide) dX6_master_14 (by decide) (fun _ => ?_) (fun h => absurd h (by decide))
    refine z_aload_n hx 0 dX6_master_20 rfl rfl ?_
    refine z_callV hx (As := []) (st := []) (kc_note hI (zputI M 32 0 (nI 0)) (zMs_t hσ2) hk) zw_717 zy_X6_note ⟨rfl, rfl⟩ (by decide) (zOB_X6 E) rfl rfl rfl rfl (Nat.le_of_ble_eq_true rfl) dX6_master_21 ?_
    rintro _ M21 ⟨rfl, q21⟩
    have hQ : zPf (M21.1 35) (w, n, mm, cd, rd) := by rw [(zfm_c q21.2 (by omega) (by omega)).1]; exact hP
    have hQ0 : M21.1 35 0 = nI mm := hQ.1
    have hQ1 : M21.1 35 1 = nI n := hQ.2.1
    have hQ2 : ∀ t, t < n → M21.1 35 (2 + t) = nI (cd t) ∧ M21.1 35 (10 + t) = Int32.ofInt (rd t) := hQ.2.2
    show zJ E x 24 _ [] _
    refine z_aload_n hx 0 dX6_master_24 rfl rfl ?_
    refine zg_X6_7 hx zw_583 dX6_master_25 ?_
    refine z_iconst hx (v := nI 0) dX6_master_28 (by decide +kernel) ?_
    refine z_iald_n hx (zIA_35 E) (by omega) dX6_master_29 ?_
    refine z_eqi (b := nI mm) hQ0 ?_
    refine z_istore_n hx (lv2 := [(2, .int (nI mm)), (0, .ref (E.2.2.2 32)), (1, .int (nI m))]) dX6_master_30 rfl (by decide) rfl ?_
    refine z_aload_n hx 1 dX6_master_31 rfl rfl ?_
    refine zg_X6_7 hx zw_583 dX6_master_32 ?_
    refine z_iconst hx (v := nI 0) dX6_master_35 (by decide +kernel) ?_
    refine z_iload_n hx 2 dX6_master_36 rfl rfl ?_
    refine z_iast_n hx (zIA_35 E) (by omega) dX6_master_37 ?_
    refine z_iload_n hx 0 dX6_master_38 rfl rfl ?_
    exact ri _ _ _ _ rfl ⟨_, rfl, (by
        rw [zop_master, if_neg q11, nI_clamp (by omega)]
        exact ⟨rfl, zMs_act hσ2 q21.1 q21.2 (zfr_putI rfl) ⟨zhtI, zskK (by omega) hQ1, fun k hk => ⟨zskK (by omega) (hQ2 k hk).1, zskK (by omega) (hQ2 k hk).2⟩⟩ rfl⟩)⟩ dX6_master_39
  · skip
    show zJ E x 14 _ [.int (nI 0)] _
    refine z_if_ne_n (tgt := 20) hx (by decide) dX6_master_14 (by decide) (fun h => absurd h (by decide)) (fun _ => ?_)
    refine z_bipush hx (v := (-2)) dX6_master_17 rfl ?_
    exact ri _ _ _ _ rfl ⟨_, rfl, (by rw [zop_master, if_pos (Classical.byContradiction q11)]; exact ⟨rfl, zMs_t hσ2, zfN_t⟩)⟩ dX6_master_19
