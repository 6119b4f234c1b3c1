theorem zpop_u : ∀ u, u < 6 → ∀ c, c < 2 ^ u → nI (zpop c) = nI (zpk c u) := by decide +kernel
theorem zBn_d {n : Nat} {A : Nat → Nat → Int} (h : zBn n A) : zrg (zdet n A) := by
  cases n with
  | zero => exact ⟨by show (-4611686018427387904 : Int) < 1; decide, by show (1 : Int) < 4611686018427387904; decide⟩
  | succ k =>
    have h1 := (h (fun p => p) ⟨fun p hp => hp, fun p q _ _ e => e⟩ k k k (Nat.le_refl _) (Nat.lt_succ_self _) (Nat.le_refl _) (Nat.lt_succ_self _)).1
    rw [zm_D] at h1
    exact h1
theorem zwth {V : Int} {D b : Nat} (hD : 0 < D) : (zTold V D false = 1 ∧ zTold V D true = (b : Int)) ↔ V = (b : Int) * (D : Int) := by
  constructor
  · rintro ⟨a1, a2⟩
    obtain ⟨g, g0, h1, h2⟩ := ztd V hD
    rw [a1, Int.one_mul] at h2
    rw [a2, h2] at h1
    exact Eq.symm h1
  · intro h
    have e : Nat.gcd V.natAbs D = D := by
      rw [h, Int.natAbs_mul, Int.natAbs_natCast, Int.natAbs_natCast]
      exact Nat.gcd_mul_left_left b D
    have hD2 : ¬ (D : Int) = 0 := by omega
    refine ⟨?_, ?_⟩
    · rw [zTold, if_neg (by decide), e]
      exact Int.ediv_self hD2
    · rw [zTold, if_pos rfl, e, h]
      exact Int.mul_ediv_cancel _ hD2
set_option maxHeartbeats 4000000 in
set_option maxRecDepth 100000 in
theorem k_X6_rankOf {E : zE} (hI : zI E) (M : zM) {p w n mm : Nat} {cd : Nat → Nat} {rd : Nat → Int} (hp : zPc p) (hR : zPr M p (w, n, mm, cd, rd)) {s : Nat} (hs : s < 256) (d : Bool) {ρ : Nat} (hρ : zrp (zunk w d) (zGm (w, n, mm, cd, rd) d (zst s)) ρ) : zK E yX6_rankOf (.code yX6_rankOf cX6_rankOf 6 (some .int)) (zrm 4 98) [.ref (E.2.2.2 32), .ref (E.2.2.2 p), .int (nI s), .int (zdr d)] M (zpi (fun v M2 => v = nI ρ ∧ zfL M M2)) := by
  refine zK_of hI (by decide) (Nat.le_of_ble_eq_true rfl) (fun x hx ri rz rl rv => ?_)
  show zJ E x 0 [(0, .ref (E.2.2.2 32)), (1, .ref (E.2.2.2 p)), (2, .int (nI s)), (3, .int (zdr d))] [] M
  have hp2 := id hp
  unfold zPc at hp2
  have hW : M.1 32 4 = nI w := hR.1
  have hP0 : M.1 p 0 = nI mm := hR.2.1.1
  have hP1 : M.1 p 1 = nI n := hR.2.1.2.1
  have hPt : ∀ t, t < n → M.1 p (2 + t) = nI (cd t) ∧ M.1 p (10 + t) = Int32.ofInt (rd t) := hR.2.1.2.2
  have hw4 : 1 ≤ w ∧ w ≤ 4 := hR.2.2.1
  have hmm9 : mm ≤ 99 := hR.2.2.2.1
  have hn8 : n ≤ 8 := hR.2.2.2.2.1
  have hV : ∀ t, t < n → zcode w (cd t) ∧ -1000 ≤ rd t ∧ rd t ≤ 1000 := hR.2.2.2.2.2
  have hu := zunk_le hw4.2 d
  have hp1 : 1 ≤ 2 ^ (zunk w d) := z2p
  have h32 := zp32 hu
  have hρ5 : ρ ≤ 5 := by
      obtain ⟨e, e1, e2, e3⟩ := hρ.2
      have := zpk_le e (zunk w d)
      omega
  refine z_aload_n hx 0 dX6_rankOf_0 rfl rfl ?_
  refine z_aload_n hx 1 dX6_rankOf_1 rfl rfl ?_
  refine z_iload_n hx 2 dX6_rankOf_2 rfl rfl ?_
  refine z_iload_n hx 3 dX6_rankOf_3 rfl rfl ?_
  refine z_callV hx (As := [.ref (E.2.2.2 p), .int (nI s), .int (zdr d)]) (st := []) (k_X6_layGram hI M hp hR hs d) zw_759 zy_X6_layGram ⟨rfl, rfl⟩ (by decide) (zOB_X6 E) rfl rfl rfl rfl (Nat.le_of_ble_eq_true rfl) dX6_rankOf_4 ?_
  rintro _ M4 ⟨rfl, q4⟩
  show zJ E x 7 _ [] _
  refine z_iconst hx (v := nI 0) dX6_rankOf_7 (by decide +kernel) ?_
  refine z_istore hx (lv2 := [(4, .int (nI 0)), (0, .ref (E.2.2.2 32)), (1, .ref (E.2.2.2 p)), (2, .int (nI s)), (3, .int (zdr d))]) dX6_rankOf_8 (by decide) rfl ?_
  refine z_iconst hx (v := nI 1) dX6_rankOf_10 (by decide +kernel) ?_
  refine z_istore hx (lv2 := [(5, .int (nI 1)), (4, .int (nI 0)), (0, .ref (E.2.2.2 32)), (1, .ref (E.2.2.2 p)), (2, .int (nI s)), (3, .int (zdr d))]) dX6_rankOf_11 (by decide) rfl ?_
  have loop13 : ∀ (fuel13 : Nat) (c mo : Nat) (N : zM) (_ : 1 ≤ c) (_ : c ≤ 2 ^ (zunk w d)) (_ : mo ≤ ρ) (_ : ∀ e, 1 ≤ e → e < c → mo < zpk e (zunk w d) → (zdet (zpk e (zunk w d)) (zmn (zGm (w, n, mm, cd, rd) d (zst s)) (zunk w d) e (-9))) = 0) (_ : zfr (fun c => c = 43 ∨ c = 44) M4 N), 2 ^ (zunk w d) - c < fuel13 → zJ E x 13 [(5, .int (nI c)), (4, .int (nI mo)), (0, .ref (E.2.2.2 32)), (1, .ref (E.2.2.2 p)), (2, .int (nI s)), (3, .int (zdr d))] [] N := by
    intro fuel13
    induction fuel13 with
    | zero =>
      intros; omega
    | succ fuel13 ih13 =>
      intro c mo N hc1 hc2 hmo hall hNf hfuel13
      refine z_iload hx 0 dX6_rankOf_13 rfl ?_
      refine z_aload_n hx 2 dX6_rankOf_15 rfl rfl ?_
      refine z_callV hx (As := []) (st := [.int (nI c)]) (k_X6_columns hI N hu (zGt_fr q4.1 (zfm_of (ks := fun _ => False) hNf (by omega)) (by omega) (by omega) (fun z => z) (fun z => z)).1) zw_777 zy_X6_columns ⟨rfl, rfl⟩ (by decide) (zOB_X6 E) rfl rfl rfl rfl (Nat.le_of_ble_eq_true rfl) dX6_rankOf_16 ?_
      rintro _ M16 ⟨v16, rfl, q16⟩
      obtain ⟨rfl, q16⟩ := q16
      rw [q16]
      show zJ E x 19 _ [.int (nI (2 ^ zunk w d - 1)), .int (nI c)] _
      refine z_icmp_gt_n (tgt := 63) hx (by omega) (by omega) dX6_rankOf_19 (by decide) (fun h19 => ?_) (fun h19 => ?_)
      · skip
        have hmρ : mo = ρ := by
          obtain ⟨e, e1, e2, e3⟩ := hρ.2
          rcases Nat.lt_or_ge mo ρ with z | z
          · have e0 : 1 ≤ e := by
              rcases Nat.eq_zero_or_pos e with y | y
              · rw [y, zlds_0 _ (by omega)] at e2; omega
              · exact y
            exact absurd (hall e e0 (by omega) (by omega)) e3
          · omega
        refine z_iload hx 1 dX6_rankOf_63 rfl ?_
        exact ri _ _ _ _ rfl ⟨_, rfl, ⟨by rw [hmρ], zfm_tr (zfm_w q4.2 (fun c z => by omega) (fun k z => by omega)) (zfm_of (zfr_w hNf (fun c z => by omega)) (by omega))⟩⟩ dX6_rankOf_65
      · skip
        have hzk := zpk_le c (zunk w d)
        refine z_iload hx 0 dX6_rankOf_22 rfl ?_
        refine z_callS hx (As := [.int (nI c)]) (st := []) (k_X6_ones hI N c (by omega)) zw_781 zy_X6_ones ⟨rfl, rfl⟩ (by decide) rfl rfl (Nat.le_of_ble_eq_true rfl) dX6_rankOf_24 ?_
        rintro _ M24 ⟨v24, rfl, q24⟩
        obtain ⟨rfl, q24⟩ := q24
        rw [q24]
        show zJ E x 27 _ [.int (nI (zpop c))] _
        refine z_eqi (b := nI (zpk c (zunk w d))) (zpop_u _ (by omega) c (by omega)) ?_
        refine z_iload hx 1 dX6_rankOf_27 rfl ?_
        refine z_icmp_le_n (tgt := 53) hx (by omega) (by omega) dX6_rankOf_29 (by decide) (fun h29 => ?_) (fun h29 => ?_)
        · skip
          refine z_iload hx 1 dX6_rankOf_53 rfl ?_
          refine z_istore hx (lv2 := [(4, .int (nI mo)), (5, .int (nI c)), (0, .ref (E.2.2.2 32)), (1, .ref (E.2.2.2 p)), (2, .int (nI s)), (3, .int (zdr d))]) dX6_rankOf_55 (by decide) rfl ?_
          refine z_iinc hx (w := nI (c + 1)) (lv2 := [(5, .int (nI (c + 1))), (4, .int (nI mo)), (0, .ref (E.2.2.2 32)), (1, .ref (E.2.2.2 p)), (2, .int (nI s)), (3, .int (zdr d))]) 1 dX6_rankOf_57 rfl (z_inc _) (by decide) rfl ?_
          refine z_goto (tgt := 13) hx dX6_rankOf_60 (by decide) ?_
          exact z_to (ih13 (c + 1) mo N (by omega) (by omega) hmo (fun e h1 h2 h3 => by
              by_cases z : e = c
              · rw [z] at h3; omega
              · exact hall e h1 (by omega) h3) hNf (by omega)) [0, 1, 2, 3, 4, 5] rfl rfl
        · skip
          have hBc := zmn_b (r := (w, n, mm, cd, rd)) hR.2.2 d (zst s) (s := c) (by show c < 2 ^ (zunk w d); omega) (-9)
          refine z_aload_n hx 2 dX6_rankOf_32 rfl rfl ?_
          refine z_iload hx 0 dX6_rankOf_33 rfl ?_
          refine z_bipush hx (v := (-9)) dX6_rankOf_35 rfl ?_
          refine z_callV hx (As := [.int (nI c), .int (-9)]) (st := []) (k_X6_minor hI N (s := c) hu (zGt_fr q4.1 (zfm_of (ks := fun _ => False) hNf (by omega)) (by omega) (by omega) (fun z => z) (fun z => z)) (by omega) (-9) hBc) zw_784 zy_X6_minor ⟨rfl, rfl⟩ (by decide) (zOB_X6 E) rfl rfl rfl rfl (Nat.le_of_ble_eq_true rfl) dX6_rankOf_37 ?_
          rintro _ M37 ⟨v37, rfl, q37⟩
          obtain ⟨rfl, q37⟩ := q37
          show zJ E x 40 _ [.long (Int64.ofInt (zdet (zpk c (zunk w d)) (zmn (zGm (w, n, mm, cd, rd) d (zst s)) (zunk w d) c (-9))))] _
          refine z_lconst hx (v := 0) dX6_rankOf_40 rfl ?_
          refine z_lcmp hx dX6_rankOf_41 ?_
          refine z_if_eq (tgt := 53) hx dX6_rankOf_42 (by decide) (fun h42 => ?_) (fun h42 => ?_)
          · skip
            have hz : (zdet (zpk c (zunk w d)) (zmn (zGm (w, n, mm, cd, rd) d (zst s)) (zunk w d) c (-9))) = 0 := (zeq64 (zBn_d hBc) ⟨by decide, by decide⟩).mp ((zcmp0 h42).trans (by decide +kernel))
            refine z_iload hx 1 dX6_rankOf_53 rfl ?_
            refine z_istore hx (lv2 := [(4, .int (nI mo)), (5, .int (nI c)), (0, .ref (E.2.2.2 32)), (1, .ref (E.2.2.2 p)), (2, .int (nI s)), (3, .int (zdr d))]) dX6_rankOf_55 (by decide) rfl ?_
            refine z_iinc hx (w := nI (c + 1)) (lv2 := [(5, .int (nI (c + 1))), (4, .int (nI mo)), (0, .ref (E.2.2.2 32)), (1, .ref (E.2.2.2 p)), (2, .int (nI s)), (3, .int (zdr d))]) 1 dX6_rankOf_57 rfl (z_inc _) (by decide) rfl ?_
            refine z_goto (tgt := 13) hx dX6_rankOf_60 (by decide) ?_
            exact z_to (ih13 (c + 1) mo M37 (by omega) (by omega) hmo (fun e h1 h2 h3 => by
                by_cases z : e = c
                · rw [z]; exact hz
                · exact hall e h1 (by omega) h3) (zfr_tr hNf q37) (by omega)) [0, 1, 2, 3, 4, 5] rfl rfl
          · skip
            have hnz : ¬ (zdet (zpk c (zunk w d)) (zmn (zGm (w, n, mm, cd, rd) d (zst s)) (zunk w d) c (-9))) = 0 := fun z => h42 (by rw [z]; decide +kernel)
            refine z_iload hx 0 dX6_rankOf_45 rfl ?_
            refine z_callS hx (As := [.int (nI c)]) (st := []) (k_X6_ones hI M37 c (by omega)) zw_781 zy_X6_ones ⟨rfl, rfl⟩ (by decide) rfl rfl (Nat.le_of_ble_eq_true rfl) dX6_rankOf_47 ?_
            rintro _ M47 ⟨v47, rfl, q47⟩
            obtain ⟨rfl, q47⟩ := q47
            rw [q47]
            show zJ E x 50 _ [.int (nI (zpop c))] _
            refine z_eqi (b := nI (zpk c (zunk w d))) (zpop_u _ (by omega) c (by omega)) ?_
            refine z_goto (tgt := 55) hx dX6_rankOf_50 (by decide) ?_
            refine z_istore hx (lv2 := [(4, .int (nI (zpk c (zunk w d)))), (5, .int (nI c)), (0, .ref (E.2.2.2 32)), (1, .ref (E.2.2.2 p)), (2, .int (nI s)), (3, .int (zdr d))]) dX6_rankOf_55 (by decide) rfl ?_
            refine z_iinc hx (w := nI (c + 1)) (lv2 := [(5, .int (nI (c + 1))), (4, .int (nI (zpk c (zunk w d)))), (0, .ref (E.2.2.2 32)), (1, .ref (E.2.2.2 p)), (2, .int (nI s)), (3, .int (zdr d))]) 1 dX6_rankOf_57 rfl (z_inc _) (by decide) rfl ?_
            refine z_goto (tgt := 13) hx dX6_rankOf_60 (by decide) ?_
            exact z_to (ih13 (c + 1) (zpk c (zunk w d)) M37 (by omega) (by omega) (Nat.not_lt.mp (fun z => hnz (hρ.1 c (by omega) z))) (fun e h1 h2 h3 => by
                by_cases z : e = c
                · rw [z] at h3; omega
                · exact hall e h1 (by omega) (by omega)) (zfr_tr hNf q37) (by omega)) [0, 1, 2, 3, 4, 5] rfl rfl
  exact z_to (loop13 _ 1 0 M4 (by omega) hp1 (Nat.zero_le _) (fun e h1 h2 => by omega) (zfr_rf _ _) (Nat.lt_succ_self _)) [0, 1, 2, 3, 4, 5] rfl rfl
set_option maxHeartbeats 4000000 in
set_option maxRecDepth 100000 in
theorem k_X6_rank {E : zE} (hI : zI E) (M : zM) {σ : zSt} (hσ : zMs M σ) (hk : zSk σ) (d : Bool) : zK E yX6_rank (.code yX6_rank cX6_rank 2 (some .int)) (zrm 5 123) [.ref (E.2.2.2 32), .int (zdr d)] M (zpi (fun v M2 => v = nI (zop_rank σ.2.2.1 d) ∧ zMs M2 σ ∧ zfN M M2)) := by
  refine zK_of hI (by decide) (Nat.le_of_ble_eq_true rfl) (fun x hx ri rz rl rv => ?_)
  show zJ E x 0 [(0, .ref (E.2.2.2 32)), (1, .int (zdr d))] [] M
  obtain ⟨tx, len, ⟨w, n, mm, cd, rd⟩, as, s, sl, sd⟩ := σ
  have hσ2 := hσ
  obtain ⟨⟨hL, hT⟩, hW, hP, ⟨hs, hA⟩, hS, hsd⟩ := hσ
  have hv := hk.1
  have hw4 : 1 ≤ w ∧ w ≤ 4 := hv.1
  have hmm : mm ≤ 99 := hv.2.1
  have hn8 : n ≤ 8 := hv.2.2.1
  have hlen : len ≤ 90 := hk.2.1.1
  have hs14 : s ≤ 14 := hk.2.2.1
  have hL : M.1 32 2 = nI len := hL
  have hW : M.1 32 4 = nI w := hW
  have hs : M.1 32 11 = nI s := hs
  have hsd : M.2 32 14 = sd := hsd
  have hP0 : M.1 35 0 = nI mm := hP.1
  have hP1 : M.1 35 1 = nI n := hP.2.1
  have hP2 : ∀ t, t < n → M.1 35 (2 + t) = nI (cd t) ∧ M.1 35 (10 + t) = Int32.ofInt (rd t) := hP.2.2
  have hT : ∀ k, k < 90 → M.1 33 k = nI (tx k) := hT
  have hR0 : zPr (zputI M 32 0 (nI 0)) 35 (w, n, mm, cd, rd) := zPr_t hσ2 hk
  have hpn := zp2 hn8
  refine z_aload_n hx 0 dX6_rank_0 rfl rfl ?_
  refine z_iconst hx (v := nI 0) dX6_rank_1 (by decide +kernel) ?_
  refine zp_X6_0 hx zw_576 dX6_rank_2 ?_
  refine z_aload_n hx 0 dX6_rank_5 rfl rfl ?_
  refine z_aload_n hx 0 dX6_rank_6 rfl rfl ?_
  refine zg_X6_7 hx zw_583 dX6_rank_7 ?_
  refine z_aload_n hx 0 dX6_rank_10 rfl rfl ?_
  refine zg_X6_7 hx zw_583 dX6_rank_11 ?_
  refine z_callS hx (As := [.ref (E.2.2.2 35)]) (st := [.ref (E.2.2.2 35), .ref (E.2.2.2 32)]) (k_X6_allOf hI (zputI M 32 0 (nI 0)) (p := 35) (n := n) zPc_35 hP1 hn8) zw_752 zy_X6_allOf ⟨rfl, rfl⟩ (by decide) rfl rfl (Nat.le_of_ble_eq_true rfl) dX6_rank_14 ?_
  rintro _ M14 ⟨v14, rfl, q14⟩
  obtain ⟨rfl, q14⟩ := q14
  rw [q14]
  show zJ E x 17 _ [.int (nI (2 ^ n - 1)), .ref (E.2.2.2 35), .ref (E.2.2.2 32)] _
  refine z_iload_n hx 1 dX6_rank_17 rfl rfl ?_
  refine z_callV hx (As := [.ref (E.2.2.2 35), .int (nI (2 ^ n - 1)), .int (zdr d)]) (st := []) (k_X6_rankOf hI (zputI M 32 0 (nI 0)) zPc_35 hR0 (s := 2 ^ n - 1) (by omega) d (ρ := zop_rank (w, n, mm, cd, rd) d) (by rw [show zGm (w, n, mm, cd, rd) d (zst (2 ^ n - 1)) = zGm (w, n, mm, cd, rd) d zall from zGm_al (r := (w, n, mm, cd, rd)) d hn8]; exact zrank_rp (r := (w, n, mm, cd, rd)) hk.1 d)) zw_755 zy_X6_rankOf ⟨rfl, rfl⟩ (by decide) (zOB_X6 E) rfl rfl rfl rfl (Nat.le_of_ble_eq_true rfl) dX6_rank_18 ?_
  rintro _ M18 ⟨v18, rfl, q18⟩
  show zJ E x 21 _ [.int v18] _
  exact ri _ _ _ _ rfl ⟨_, rfl, ⟨q18.1, zMs_L hσ2 q18.2⟩⟩ dX6_rank_21
set_option maxHeartbeats 4000000 in
set_option maxRecDepth 100000 in
theorem k_X6_isWorth {E : zE} (hI : zI E) (M : zM) {w n mm : Nat} {cd : Nat → Nat} {rd : Nat → Int} (hR : zPr M 36 (w, n, mm, cd, rd)) {a b : Nat} (ha : a < 10) (hb : b < 100) : zK E yX6_isWorth (.code yX6_isWorth cX6_isWorth 3 (some .boolean)) (zrm 5 121) [.ref (E.2.2.2 32), .int (nI a), .int (nI b)] M (zpi (fun v M2 => (((a < w ∧ ¬ zdet w (zGm (w, n, mm, cd, rd) false zall) = 0 ∧ zVal (zGm (w, n, mm, cd, rd) false zall) w a = ((b : Nat) : Int) * zdet w (zGm (w, n, mm, cd, rd) false zall)) ∧ v = nI 1) ∨ (¬ (a < w ∧ ¬ zdet w (zGm (w, n, mm, cd, rd) false zall) = 0 ∧ zVal (zGm (w, n, mm, cd, rd) false zall) w a = ((b : Nat) : Int) * zdet w (zGm (w, n, mm, cd, rd) false zall)) ∧ v = nI 0)) ∧ zfL M M2)) := by
  refine zK_of hI (by decide) (Nat.le_of_ble_eq_true rfl) (fun x hx ri rz rl rv => ?_)
  show zJ E x 0 [(0, .ref (E.2.2.2 32)), (1, .int (nI a)), (2, .int (nI b))] [] M
  have hW : M.1 32 4 = nI w := hR.1
  have hP0 : M.1 36 0 = nI mm := hR.2.1.1
  have hP1 : M.1 36 1 = nI n := hR.2.1.2.1
  have hPt : ∀ t, t < n → M.1 36 (2 + t) = nI (cd t) ∧ M.1 36 (10 + t) = Int32.ofInt (rd t) := hR.2.1.2.2
  have hw4 : 1 ≤ w ∧ w ≤ 4 := hR.2.2.1
  have hmm9 : mm ≤ 99 := hR.2.2.2.1
  have hn8 : n ≤ 8 := hR.2.2.2.2.1
  have hV : ∀ t, t < n → zcode w (cd t) ∧ -1000 ≤ rd t ∧ rd t ≤ 1000 := hR.2.2.2.2.2
  have hu := zunk_le hw4.2 false
  have hpn := zp2 hn8
  have hDD : 0 ≤ (zdet (zunk w false) (zGm (w, n, mm, cd, rd) false zall)) ∧ (zdet (zunk w false) (zGm (w, n, mm, cd, rd) false zall)) ≤ 600000 := zD_in (r := (w, n, mm, cd, rd)) hR.2.2 false zall
  refine z_aload_n hx 0 dX6_isWorth_0 rfl rfl ?_
  refine z_iload_n hx 1 dX6_isWorth_1 rfl rfl ?_
  refine z_iconst hx (v := nI 0) dX6_isWorth_2 (by decide +kernel) ?_
  refine z_callV hx (As := [.int (nI a), .int (nI 0)]) (st := []) (k_X6_noColumn hI M (w := w) hW hw4 (nI a) false) zw_796 zy_X6_noColumn ⟨rfl, rfl⟩ (by decide) (zOB_X6 E) rfl rfl rfl rfl (Nat.le_of_ble_eq_true rfl) dX6_isWorth_3 ?_
  rintro _ M3 ⟨v3, rfl, q3⟩
  obtain ⟨q3, hmm⟩ := q3
  rw [hmm]
  rcases q3 with ⟨j, hj, ej, rfl⟩ | ⟨q3, rfl⟩
  · skip
    show zJ E x 6 _ [.int (nI 0)] _
    have hj2 : j < w := hj
    have haw : a < w := by
      have := (nI_eq (by omega) (by omega)).mp ej
      omega
    refine z_if_ne_n (tgt := 28) hx (by decide) dX6_isWorth_6 (by decide) (fun h => absurd h (by decide)) (fun _ => ?_)
    refine z_aload_n hx 0 dX6_isWorth_9 rfl rfl ?_
    refine z_aload_n hx 0 dX6_isWorth_10 rfl rfl ?_
    refine zg_X6_8 hx zw_584 dX6_isWorth_11 ?_
    refine z_aload_n hx 0 dX6_isWorth_14 rfl rfl ?_
    refine zg_X6_8 hx zw_584 dX6_isWorth_15 ?_
    refine z_callS hx (As := [.ref (E.2.2.2 36)]) (st := [.ref (E.2.2.2 36), .ref (E.2.2.2 32)]) (k_X6_allOf hI M (p := 36) (n := n) zPc_36 hP1 hn8) zw_752 zy_X6_allOf ⟨rfl, rfl⟩ (by decide) rfl rfl (Nat.le_of_ble_eq_true rfl) dX6_isWorth_18 ?_
    rintro _ M18 ⟨v18, rfl, q18⟩
    obtain ⟨rfl, q18⟩ := q18
    rw [q18]
    show zJ E x 21 _ [.int (nI (2 ^ n - 1)), .ref (E.2.2.2 36), .ref (E.2.2.2 32)] _
    refine z_iconst hx (v := nI 0) dX6_isWorth_21 (by decide +kernel) ?_
    refine z_callV hx (As := [.ref (E.2.2.2 36), .int (nI (2 ^ n - 1)), .int (nI 0)]) (st := []) (k_X6_isLaid hI M zPc_36 hR (s := 2 ^ n - 1) (by omega) false) zw_801 zy_X6_isLaid ⟨rfl, rfl⟩ (by decide) (zOB_X6 E) rfl rfl rfl rfl (Nat.le_of_ble_eq_true rfl) dX6_isWorth_22 ?_
    rintro _ M22 ⟨v22, rfl, q22⟩
    rw [show zGm (w, n, mm, cd, rd) false (zst (2 ^ n - 1)) = (zGm (w, n, mm, cd, rd) false zall) from zGm_al (r := (w, n, mm, cd, rd)) false hn8] at q22
    obtain ⟨q22, hGl, hfl⟩ := q22
    rcases q22 with ⟨hne, rfl⟩ | ⟨hze, rfl⟩
    · skip
      show zJ E x 25 _ [.int (nI 1)] _
      refine z_if_ne_n (tgt := 30) hx (by decide) dX6_isWorth_25 (by decide) (fun _ => ?_) (fun h => absurd h (by decide))
      refine z_aload_n hx 0 dX6_isWorth_30 rfl rfl ?_
      refine z_aload_n hx 0 dX6_isWorth_31 rfl rfl ?_
      refine z_aload_n hx 0 dX6_isWorth_32 rfl rfl ?_
      refine z_callV hx (As := []) (st := [.ref (E.2.2.2 32), .ref (E.2.2.2 32)]) (k_X6_columns hI M22 hu hGl.1) zw_777 zy_X6_columns ⟨rfl, rfl⟩ (by decide) (zOB_X6 E) rfl rfl rfl rfl (Nat.le_of_ble_eq_true rfl) dX6_isWorth_33 ?_
      rintro _ M33 ⟨v33, rfl, q33⟩
      obtain ⟨rfl, q33⟩ := q33
      rw [q33]
      show zJ E x 36 _ [.int (nI (2 ^ zunk w false - 1)), .ref (E.2.2.2 32), .ref (E.2.2.2 32)] _
      refine z_iload_n hx 1 dX6_isWorth_36 rfl rfl ?_
      refine z_callV hx (As := [.int (nI (2 ^ zunk w false - 1)), .int (nI a)]) (st := [.ref (E.2.2.2 32)]) (kc_mi hI M22 (r := (w, n, mm, cd, rd)) hR.2.2 hGl (i := a) haw) zw_784 zy_X6_minor ⟨rfl, rfl⟩ (by decide) (zOB_X6 E) rfl rfl rfl rfl (Nat.le_of_ble_eq_true rfl) dX6_isWorth_37 ?_
      rintro _ M37 ⟨v37, rfl, q37⟩
      obtain ⟨rfl, q37⟩ := q37
      show zJ E x 40 _ [.long (Int64.ofInt (zVal (zGm (w, n, mm, cd, rd) false zall) (zunk w false) a)), .ref (E.2.2.2 32)] _
      refine z_aload_n hx 0 dX6_isWorth_40 rfl rfl ?_
      refine z_aload_n hx 0 dX6_isWorth_41 rfl rfl ?_
      refine z_callV hx (As := []) (st := [.ref (E.2.2.2 32), .long (Int64.ofInt (zVal (zGm (w, n, mm, cd, rd) false zall) (zunk w false) a)), .ref (E.2.2.2 32)]) (k_X6_columns hI M37 hu (zGt_fr hGl (zfm_of (ks := fun _ => False) q37 (by omega)) (by omega) (by omega) (fun z => z) (fun z => z)).1) zw_777 zy_X6_columns ⟨rfl, rfl⟩ (by decide) (zOB_X6 E) rfl rfl rfl rfl (Nat.le_of_ble_eq_true rfl) dX6_isWorth_42 ?_
      rintro _ M42 ⟨v42, rfl, q42⟩
      obtain ⟨rfl, q42⟩ := q42
      rw [q42]
      show zJ E x 45 _ [.int (nI (2 ^ zunk w false - 1)), .ref (E.2.2.2 32), .long (Int64.ofInt (zVal (zGm (w, n, mm, cd, rd) false zall) (zunk w false) a)), .ref (E.2.2.2 32)] _
      refine z_bipush hx (v := (-9)) dX6_isWorth_45 rfl ?_
      refine z_callV hx (As := [.int (nI (2 ^ zunk w false - 1)), .int (-9)]) (st := [.long (Int64.ofInt (zVal (zGm (w, n, mm, cd, rd) false zall) (zunk w false) a)), .ref (E.2.2.2 32)]) (kc_mf hI M37 (r := (w, n, mm, cd, rd)) hR.2.2 (zGt_fr hGl (zfm_of (ks := fun _ => False) q37 (by omega)) (by omega) (by omega) (fun z => z) (fun z => z))) zw_784 zy_X6_minor ⟨rfl, rfl⟩ (by decide) (zOB_X6 E) rfl rfl rfl rfl (Nat.le_of_ble_eq_true rfl) dX6_isWorth_47 ?_
      rintro _ M47 ⟨v47, rfl, q47⟩
      obtain ⟨rfl, q47⟩ := q47
      show zJ E x 50 _ [.long (Int64.ofInt (zdet (zunk w false) (zGm (w, n, mm, cd, rd) false zall))), .long (Int64.ofInt (zVal (zGm (w, n, mm, cd, rd) false zall) (zunk w false) a)), .ref (E.2.2.2 32)] _
      refine z_eql (b := Int64.ofInt (((zdet (zunk w false) (zGm (w, n, mm, cd, rd) false zall)).natAbs : Nat) : Int)) (zdna hDD.1) ?_
      refine z_callV hx (As := [.long (Int64.ofInt (zVal (zGm (w, n, mm, cd, rd) false zall) (zunk w false) a)), .long (Int64.ofInt (((zdet (zunk w false) (zGm (w, n, mm, cd, rd) false zall)).natAbs : Nat) : Int))]) (st := []) (k_X6_layFraction hI M47 (zVal (zGm (w, n, mm, cd, rd) false zall) (zunk w false) a) (zdet (zunk w false) (zGm (w, n, mm, cd, rd) false zall)).natAbs (zab_rg (zV_in (r := (w, n, mm, cd, rd)) hR.2.2 false zall haw) (by decide)) (by omega) (by omega)) zw_806 zy_X6_layFraction ⟨rfl, rfl⟩ (by decide) (zOB_X6 E) rfl rfl rfl rfl (Nat.le_of_ble_eq_true rfl) dX6_isWorth_50 ?_
      rintro _ M50 ⟨rfl, q50⟩
      show zJ E x 53 _ [] _
      refine z_aload_n hx 0 dX6_isWorth_53 rfl rfl ?_
      refine zg_X6_23 hx zw_599 dX6_isWorth_54 ?_
      refine z_eql (b := Int64.ofInt (zTold (zVal (zGm (w, n, mm, cd, rd) false zall) (zunk w false) a) (zdet (zunk w false) (zGm (w, n, mm, cd, rd) false zall)).natAbs false)) q50.2.1 ?_
      refine z_lconst hx (v := 1) dX6_isWorth_57 rfl ?_
      refine z_lcmp hx dX6_isWorth_58 ?_
      refine z_if_ne (tgt := 76) hx dX6_isWorth_59 (by decide) (fun h59 => ?_) (fun h59 => ?_)
      · skip
        have hne2 : ¬ (zdet (zunk w false) (zGm (w, n, mm, cd, rd) false zall)) = 0 := hne
        have hDp : 0 < (zdet (zunk w false) (zGm (w, n, mm, cd, rd) false zall)).natAbs := by omega
        have hDe : (((zdet (zunk w false) (zGm (w, n, mm, cd, rd) false zall)).natAbs : Nat) : Int) = zdet w (zGm (w, n, mm, cd, rd) false zall) := by
          have : zdet w (zGm (w, n, mm, cd, rd) false zall) = (zdet (zunk w false) (zGm (w, n, mm, cd, rd) false zall)) := rfl
          omega
        have hrl : zrg (zTold (zVal (zGm (w, n, mm, cd, rd) false zall) (zunk w false) a) (zdet (zunk w false) (zGm (w, n, mm, cd, rd) false zall)).natAbs false) := zab_rg (zTold_l (c := (zdet (zunk w false) (zGm (w, n, mm, cd, rd) false zall)).natAbs) (b := 600000) hDp (by omega)) (by decide)
        have hru : zrg (zTold (zVal (zGm (w, n, mm, cd, rd) false zall) (zunk w false) a) (zdet (zunk w false) (zGm (w, n, mm, cd, rd) false zall)).natAbs true) := zab_rg (zTold_u (c := (zdet (zunk w false) (zGm (w, n, mm, cd, rd) false zall)).natAbs) (b := 1000000000000) hDp (zV_in (r := (w, n, mm, cd, rd)) hR.2.2 false zall haw)) (by decide)
        have hwt := zwth (V := (zVal (zGm (w, n, mm, cd, rd) false zall) (zunk w false) a)) (b := b) hDp
        rw [hDe] at hwt
        have hval : ¬ zVal (zGm (w, n, mm, cd, rd) false zall) w a = ((b : Nat) : Int) * zdet w (zGm (w, n, mm, cd, rd) false zall) := fun z => h59 (by rw [(hwt.mpr z).1]; decide +kernel)
        refine z_iconst hx (v := nI 0) dX6_isWorth_76 (by decide +kernel) ?_
        exact rz _ _ _ _ rfl (Or.inl rfl) ⟨_, rfl, ⟨Or.inr ⟨fun z => hval z.2.2, rfl⟩, (zfm_tr hfl (zfm_tr (zfm_of (zfr_w q37 (fun c z => by omega)) (by omega)) (zfm_tr (zfm_of (zfr_w q47 (fun c z => by omega)) (by omega)) (zfm_w q50.2.2 (fun c z => False.elim z) (fun k z => by omega)))))⟩⟩ dX6_isWorth_77
      · skip
        have hne2 : ¬ (zdet (zunk w false) (zGm (w, n, mm, cd, rd) false zall)) = 0 := hne
        have hDp : 0 < (zdet (zunk w false) (zGm (w, n, mm, cd, rd) false zall)).natAbs := by omega
        have hDe : (((zdet (zunk w false) (zGm (w, n, mm, cd, rd) false zall)).natAbs : Nat) : Int) = zdet w (zGm (w, n, mm, cd, rd) false zall) := by
          have : zdet w (zGm (w, n, mm, cd, rd) false zall) = (zdet (zunk w false) (zGm (w, n, mm, cd, rd) false zall)) := rfl
          omega
        have hrl : zrg (zTold (zVal (zGm (w, n, mm, cd, rd) false zall) (zunk w false) a) (zdet (zunk w false) (zGm (w, n, mm, cd, rd) false zall)).natAbs false) := zab_rg (zTold_l (c := (zdet (zunk w false) (zGm (w, n, mm, cd, rd) false zall)).natAbs) (b := 600000) hDp (by omega)) (by decide)
        have hru : zrg (zTold (zVal (zGm (w, n, mm, cd, rd) false zall) (zunk w false) a) (zdet (zunk w false) (zGm (w, n, mm, cd, rd) false zall)).natAbs true) := zab_rg (zTold_u (c := (zdet (zunk w false) (zGm (w, n, mm, cd, rd) false zall)).natAbs) (b := 1000000000000) hDp (zV_in (r := (w, n, mm, cd, rd)) hR.2.2 false zall haw)) (by decide)
        have hwt := zwth (V := (zVal (zGm (w, n, mm, cd, rd) false zall) (zunk w false) a)) (b := b) hDp
        rw [hDe] at hwt
        have hlow : zTold (zVal (zGm (w, n, mm, cd, rd) false zall) (zunk w false) a) (zdet (zunk w false) (zGm (w, n, mm, cd, rd) false zall)).natAbs false = 1 := (zeq64 hrl ⟨by decide, by decide⟩).mp (((lg_cmp_eq _ _).mp h59).trans (by decide +kernel))
        refine z_aload_n hx 0 dX6_isWorth_62 rfl rfl ?_
        refine zg_X6_22 hx zw_598 dX6_isWorth_63 ?_
        refine z_eql (b := Int64.ofInt (zTold (zVal (zGm (w, n, mm, cd, rd) false zall) (zunk w false) a) (zdet (zunk w false) (zGm (w, n, mm, cd, rd) false zall)).natAbs true)) q50.1 ?_
        refine z_iload_n hx 2 dX6_isWorth_66 rfl rfl ?_
        refine z_i2l hx dX6_isWorth_67 ?_
        refine z_lcmp hx dX6_isWorth_68 ?_
        refine z_if_ne (tgt := 76) hx dX6_isWorth_69 (by decide) (fun h69 => ?_) (fun h69 => ?_)
        · skip
          have hval : ¬ zVal (zGm (w, n, mm, cd, rd) false zall) w a = ((b : Nat) : Int) * zdet w (zGm (w, n, mm, cd, rd) false zall) := fun z => h69 ((lg_cmp_eq _ _).mpr (by rw [(hwt.mpr z).2, (show (nI b).toInt64 = Int64.ofInt (b : Int) by rw [znI_ofInt]; exact zi32 (by omega) (by omega))]))
          refine z_iconst hx (v := nI 0) dX6_isWorth_76 (by decide +kernel) ?_
          exact rz _ _ _ _ rfl (Or.inl rfl) ⟨_, rfl, ⟨Or.inr ⟨fun z => hval z.2.2, rfl⟩, (zfm_tr hfl (zfm_tr (zfm_of (zfr_w q37 (fun c z => by omega)) (by omega)) (zfm_tr (zfm_of (zfr_w q47 (fun c z => by omega)) (by omega)) (zfm_w q50.2.2 (fun c z => False.elim z) (fun k z => by omega)))))⟩⟩ dX6_isWorth_77
        · skip
          have hval : zVal (zGm (w, n, mm, cd, rd) false zall) w a = ((b : Nat) : Int) * zdet w (zGm (w, n, mm, cd, rd) false zall) := hwt.mp ⟨hlow, (zeq64 hru ⟨by omega, by omega⟩).mp (((lg_cmp_eq _ _).mp h69).trans (show (nI b).toInt64 = Int64.ofInt (b : Int) by rw [znI_ofInt]; exact zi32 (by omega) (by omega)))⟩
          refine z_iconst hx (v := nI 1) dX6_isWorth_72 (by decide +kernel) ?_
          refine z_goto (tgt := 77) hx dX6_isWorth_73 (by decide) ?_
          exact rz _ _ _ _ rfl (Or.inr rfl) ⟨_, rfl, ⟨Or.inl ⟨⟨haw, hne, hval⟩, rfl⟩, (zfm_tr hfl (zfm_tr (zfm_of (zfr_w q37 (fun c z => by omega)) (by omega)) (zfm_tr (zfm_of (zfr_w q47 (fun c z => by omega)) (by omega)) (zfm_w q50.2.2 (fun c z => False.elim z) (fun k z => by omega)))))⟩⟩ dX6_isWorth_77
    · skip
      show zJ E x 25 _ [.int (nI 0)] _
      refine z_if_ne_n (tgt := 30) hx (by decide) dX6_isWorth_25 (by decide) (fun h => absurd h (by decide)) (fun _ => ?_)
      refine z_iconst hx (v := nI 0) dX6_isWorth_28 (by decide +kernel) ?_
      exact rz _ _ _ _ rfl (Or.inl rfl) ⟨_, rfl, ⟨Or.inr ⟨fun z => z.2.1 hze, rfl⟩, hfl⟩⟩ dX6_isWorth_29
  · skip
    show zJ E x 6 _ [.int (nI 1)] _
    have haw : ¬ a < w := fun z => zin_u (u := w) z (by omega) q3
    refine z_if_ne_n (tgt := 28) hx (by decide) dX6_isWorth_6 (by decide) (fun _ => ?_) (fun h => absurd h (by decide))
    refine z_iconst hx (v := nI 0) dX6_isWorth_28 (by decide +kernel) ?_
    exact rz _ _ _ _ rfl (Or.inl rfl) ⟨_, rfl, ⟨Or.inr ⟨fun z => haw z.1, rfl⟩, zfm_rf _ _ _⟩⟩ dX6_isWorth_29
