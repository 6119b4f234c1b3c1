theorem zhas_a : ∀ c, c < 256 → ∀ j, j < 8 → (c &&& 2 ^ j = 0 ↔ ¬ c / 2 ^ j % 2 = 1) := by decide +kernel
theorem zshr_y {r : zRo} {d : Bool} {j k : Nat} (h : k &&& 2 ^ j = 0) (h1 : zrk r d k ≤ zrk r d (k ||| 2 ^ j)) (h2 : zrk r d (k ||| 2 ^ j) ≤ zrk r d k + 1) : zshr r d j (k + 1) = zshr r d j k + zfac (zpop k) * zfac (r.2.1 - 1 - zpop k) * (zrk r d (k ||| 2 ^ j) - zrk r d k) := by
  show zshr r d j k + (if k &&& 2 ^ j = 0 ∧ zrk r d k < zrk r d (k ||| 2 ^ j) then _ else 0) = _
  by_cases e : zrk r d k < zrk r d (k ||| 2 ^ j)
  · rw [if_pos ⟨h, e⟩, show zrk r d (k ||| 2 ^ j) - zrk r d k = 1 by omega, Nat.mul_one]
  · rw [if_neg (fun z => e z.2), show zrk r d (k ||| 2 ^ j) - zrk r d k = 0 by omega, Nat.mul_zero]
theorem zshr_n {r : zRo} {d : Bool} {j k : Nat} (h : ¬ k &&& 2 ^ j = 0) : zshr r d j (k + 1) = zshr r d j k := by
  show zshr r d j k + (if k &&& 2 ^ j = 0 ∧ zrk r d k < zrk r d (k ||| 2 ^ j) then _ else 0) = _
  rw [if_neg (fun z => h z.1)]
  rfl
theorem zlst_y {r : zRo} {d : Bool} {j k : Nat} (h : zrk r d k = zunk r.1 d) : zlst r d j (k + 1) = zlst r d j k + j ^ (r.2.1 - zpop k) * (10 - j) ^ zpop k := by
  show zlst r d j k + (if zrk r d k = zunk r.1 d then _ else 0) = _
  rw [if_pos h, Nat.mul_comm]
theorem zlst_n {r : zRo} {d : Bool} {j k : Nat} (h : ¬ zrk r d k = zunk r.1 d) : zlst r d j (k + 1) = zlst r d j k := by
  show zlst r d j k + (if zrk r d k = zunk r.1 d then _ else 0) = _
  rw [if_neg h]
  rfl
theorem znl {a : Nat} (h : a < 2 ^ 31) : (nI a).toInt64 = Int64.ofInt (a : Int) := by rw [nI_l h, zlN_ofInt]
set_option maxHeartbeats 4000000 in
set_option maxRecDepth 100000 in
theorem k_X6_share {E : zE} (hI : zI E) (M : zM) {σ : zSt} (hσ : zMs M σ) (hk : zSk σ) (t : Int32) (d up : Bool) : zK E yX6_share (.code yX6_share cX6_share 10 (some .int)) (zrm 5 123) [.ref (E.2.2.2 32), .int t, .int (zdr d), .int (zdr up)] M (zpi (fun v M2 => v = zop_share σ.2.2.1 t d up ∧ zMs M2 σ ∧ zfN M M2)) := by
  refine zK_of hI (by decide) (Nat.le_of_ble_eq_true rfl) (fun x hx ri rz rl rv => ?_)
  show zJ E x 0 [(0, .ref (E.2.2.2 32)), (1, .int t), (2, .int (zdr d)), (3, .int (zdr up))] [] M
  obtain ⟨tx, len, ⟨w, n, mm, cd, rd⟩, as, s, sl, sd⟩ := σ
  have hσ2 := hσ
  obtain ⟨⟨hL, hT⟩, hW, hP, ⟨hs, hA⟩, hS, hsd⟩ := hσ
  have hv := hk.1
  have hw4 : 1 ≤ w ∧ w ≤ 4 := hv.1
  have hmm : mm ≤ 99 := hv.2.1
  have hn8 : n ≤ 8 := hv.2.2.1
  have hlen : len ≤ 90 := hk.2.1.1
  have hs14 : s ≤ 14 := hk.2.2.1
  have hL : M.1 32 2 = nI len := hL
  have hW : M.1 32 4 = nI w := hW
  have hs : M.1 32 11 = nI s := hs
  have hsd : M.2 32 14 = sd := hsd
  have hP0 : M.1 35 0 = nI mm := hP.1
  have hP1 : M.1 35 1 = nI n := hP.2.1
  have hP2 : ∀ t, t < n → M.1 35 (2 + t) = nI (cd t) ∧ M.1 35 (10 + t) = Int32.ofInt (rd t) := hP.2.2
  have hT : ∀ k, k < 90 → M.1 33 k = nI (tx k) := hT
  have hR0 : zPr (zputI M 32 0 (nI 0)) 35 (w, n, mm, cd, rd) := zPr_t hσ2 hk
  have hpn := zp2 hn8
  have hu := zunk_le hw4.2 d
  have hfn := zfac_le n (by omega)
  refine z_aload_n hx 0 dX6_share_0 rfl rfl ?_
  refine z_iconst hx (v := nI 0) dX6_share_1 (by decide +kernel) ?_
  refine zp_X6_0 hx zw_576 dX6_share_2 ?_
  refine z_aload_n hx 0 dX6_share_5 rfl rfl ?_
  refine z_iload_n hx 1 dX6_share_6 rfl rfl ?_
  refine z_callV hx (As := [.int t]) (st := []) (k_X6_noWeighing hI (zputI M 32 0 (nI 0)) (n := n) (zskI (by omega) hP1) hn8 t) zw_696 zy_X6_noWeighing ⟨rfl, rfl⟩ (by decide) (zOB_X6 E) rfl rfl rfl rfl (Nat.le_of_ble_eq_true rfl) dX6_share_7 ?_
  rintro _ M7 ⟨v7, rfl, q7⟩
  obtain ⟨q7, hmm⟩ := q7
  rw [hmm]
  rcases q7 with ⟨j, hj, rfl, rfl⟩ | ⟨q7, rfl⟩
  · skip
    show zJ E x 10 _ [.int (nI 0)] _
    refine z_if_eq_n (tgt := 15) hx (by decide) dX6_share_10 (by decide) (fun _ => ?_) (fun h => absurd h (by decide))
    refine z_aload_n hx 0 dX6_share_15 rfl rfl ?_
    refine zg_X6_7 hx zw_583 dX6_share_16 ?_
    refine z_iconst hx (v := nI 1) dX6_share_19 (by decide +kernel) ?_
    refine z_iald_n hx (zIA_35 E) (by omega) dX6_share_20 ?_
    refine z_eqi (b := nI n) (zskI (by omega) hP1) ?_
    refine z_istore hx (lv2 := [(4, .int (nI n)), (0, .ref (E.2.2.2 32)), (1, .int (nI j)), (2, .int (zdr d)), (3, .int (zdr up))]) dX6_share_21 (by decide) rfl ?_
    refine z_lconst hx (v := 0) dX6_share_23 rfl ?_
    refine z_lstore hx (lv2 := [(5, .long 0), (4, .int (nI n)), (0, .ref (E.2.2.2 32)), (1, .int (nI j)), (2, .int (zdr d)), (3, .int (zdr up))]) dX6_share_24 (by decide) rfl ?_
    refine z_iconst hx (v := nI 0) dX6_share_26 (by decide +kernel) ?_
    refine z_istore hx (lv2 := [(7, .int (nI 0)), (5, .long 0), (4, .int (nI n)), (0, .ref (E.2.2.2 32)), (1, .int (nI j)), (2, .int (zdr d)), (3, .int (zdr up))]) dX6_share_27 (by decide) rfl ?_
    have loop29 : ∀ (fuel29 : Nat) (c : Nat) (N : zM) (_ : c ≤ 2 ^ n) (_ : zfL (zputI M 32 0 (nI 0)) N), 2 ^ n - c < fuel29 → zJ E x 29 [(7, .int (nI c)), (5, .long (Int64.ofInt ((zshr (w, n, mm, cd, rd) d j c : Nat) : Int))), (4, .int (nI n)), (0, .ref (E.2.2.2 32)), (1, .int (nI j)), (2, .int (zdr d)), (3, .int (zdr up))] [] N := by
      intro fuel29
      induction fuel29 with
      | zero =>
        intros; omega
      | succ fuel29 ih29 =>
        intro c N hc hNf hfuel29
        refine z_iload hx 0 dX6_share_29 rfl ?_
        refine z_iconst hx (v := nI 1) dX6_share_31 (by decide +kernel) ?_
        refine z_iload hx 2 dX6_share_32 rfl ?_
        refine z_ishl hx dX6_share_34 ?_
        refine z_eqi (b := nI (2 ^ n)) (zshl1 hn8) ?_
        refine z_icmp_ge_n (tgt := 116) hx (by omega) (by omega) dX6_share_35 (by decide) (fun h35 => ?_) (fun h35 => ?_)
        · skip
          refine z_aload_n hx 3 dX6_share_116 rfl rfl ?_
          refine z_lload hx 1 dX6_share_117 rfl ?_
          refine z_iload hx 2 dX6_share_119 rfl ?_
          refine z_callS hx (As := [.int (nI n)]) (st := [.long (Int64.ofInt ((zshr (w, n, mm, cd, rd) d j c : Nat) : Int)), .ref (E.2.2.2 32)]) (k_X6_factorial hI N n (by omega)) zw_882 zy_X6_factorial ⟨rfl, rfl⟩ (by decide) rfl rfl (Nat.le_of_ble_eq_true rfl) dX6_share_121 ?_
          rintro _ M121 ⟨v121, rfl, q121⟩
          obtain ⟨rfl, q121⟩ := q121
          rw [q121]
          show zJ E x 124 _ [.int (nI (zfac n)), .long (Int64.ofInt ((zshr (w, n, mm, cd, rd) d j c : Nat) : Int)), .ref (E.2.2.2 32)] _
          refine z_i2l hx dX6_share_124 ?_
          rw [show c = 2 ^ n by omega]
          refine z_eql (b := Int64.ofInt (((zfac n : Nat)) : Int)) (znl (by omega)) ?_
          refine z_callV hx (As := [.long (Int64.ofInt ((zshr (w, n, mm, cd, rd) d j (2 ^ n) : Nat) : Int)), .long (Int64.ofInt (((zfac n : Nat)) : Int))]) (st := []) (k_X6_layFraction hI N ((zshr (w, n, mm, cd, rd) d j (2 ^ n) : Nat) : Int) (zfac n) (by have h := zshr_le (r := (w, n, mm, cd, rd)) (d := d) (j := j) hj hn8 (2 ^ n) (Nat.le_refl _); have h2 : 2 ^ n * 1625702400 ≤ 256 * 1625702400 := Nat.mul_le_mul_right _ hpn.2; unfold zrg; omega) (by omega) (by omega)) zw_806 zy_X6_layFraction ⟨rfl, rfl⟩ (by decide) (zOB_X6 E) rfl rfl rfl rfl (Nat.le_of_ble_eq_true rfl) dX6_share_125 ?_
          rintro _ M125 ⟨rfl, q125⟩
          show zJ E x 128 _ [] _
          refine z_aload_n hx 3 dX6_share_128 rfl rfl ?_
          refine z_iload_n hx 6 dX6_share_129 rfl rfl ?_
          refine z_callV hx (As := [.int (zdr up)]) (st := []) (k_X6_told hI M125 q125.1 q125.2.1 up) zw_813 zy_X6_told ⟨rfl, rfl⟩ (by decide) (zOB_X6 E) rfl rfl rfl rfl (Nat.le_of_ble_eq_true rfl) dX6_share_130 ?_
          rintro _ M130 ⟨v130, rfl, q130⟩
          obtain ⟨rfl, q130⟩ := q130
          rw [q130]
          show zJ E x 133 _ [.long (Int64.ofInt (zTold ((zshr (w, n, mm, cd, rd) d j (2 ^ n) : Nat) : Int) (zfac n) up))] _
          refine z_l2i hx dX6_share_133 ?_
          exact ri _ _ _ _ rfl ⟨_, rfl, ⟨by rw [zop_share, if_neg (zin_n hj hn8), nI_clamp (by omega)], zMs_L hσ2 (zfm_tr hNf (zfm_w q125.2.2 (fun c z => False.elim z) (fun k z => by omega)))⟩⟩ dX6_share_134
        · skip
          refine z_iload hx 0 dX6_share_38 rfl ?_
          refine z_iload_n hx 4 dX6_share_40 rfl rfl ?_
          refine z_callS hx (As := [.int (nI c), .int (nI j)]) (st := []) (k_X6_has hI N c j (by omega) (by omega)) zw_763 zy_X6_has ⟨rfl, rfl⟩ (by decide) rfl rfl (Nat.le_of_ble_eq_true rfl) dX6_share_41 ?_
          rintro _ M41 ⟨v41, rfl, q41⟩
          obtain ⟨q41, hmm⟩ := q41
          rw [hmm]
          rcases q41 with ⟨q41, rfl⟩ | ⟨q41, rfl⟩
          · skip
            show zJ E x 44 _ [.int (nI 1)] _
            have hno : ¬ c &&& 2 ^ j = 0 := fun z => (zhas_a c (by omega) j (by omega)).mp z q41
            refine z_if_ne_n (tgt := 110) hx (by decide) dX6_share_44 (by decide) (fun _ => ?_) (fun h => absurd h (by decide))
            refine z_iinc hx (w := nI (c + 1)) (lv2 := [(7, .int (nI (c + 1))), (5, .long (Int64.ofInt ((zshr (w, n, mm, cd, rd) d j c : Nat) : Int))), (4, .int (nI n)), (0, .ref (E.2.2.2 32)), (1, .int (nI j)), (2, .int (zdr d)), (3, .int (zdr up))]) 0 dX6_share_110 rfl (z_inc _) (by decide) rfl ?_
            refine z_goto (tgt := 29) hx dX6_share_113 (by decide) ?_
            exact z_to (ih29 (c + 1) N (by omega) hNf (by omega)) [0, 1, 2, 3, 4, 5, 6] (by rw [zshr_n hno]; rfl) rfl
          · skip
            show zJ E x 44 _ [.int (nI 0)] _
            have hyes : c &&& 2 ^ j = 0 := (zhas_a c (by omega) j (by omega)).mpr q41
            have hor := zor_lt n (by omega) c (by omega) j hj
            have hst : zrk (w, n, mm, cd, rd) d c ≤ zrk (w, n, mm, cd, rd) d (c ||| 2 ^ j) ∧ zrk (w, n, mm, cd, rd) d (c ||| 2 ^ j) ≤ zrk (w, n, mm, cd, rd) d c + 1 := zrk_step (r := (w, n, mm, cd, rd)) hk.1 d (s := c) (j := j) (by show c < 2 ^ n; omega) hj
            have hrk5 : zrk (w, n, mm, cd, rd) d (c ||| 2 ^ j) ≤ 5 := by
              obtain ⟨-, e, e1, e2, e3⟩ := zrk_rp (r := (w, n, mm, cd, rd)) hk.1 d (s := c ||| 2 ^ j) hor
              have := zpk_le e (zunk w d)
              have e2 : zpk e (zunk w d) = zrk (w, n, mm, cd, rd) d (c ||| 2 ^ j) := e2
              omega
            have hpp := zsp_all n (by omega) j hj c (by omega) hyes
            have hf1 := zfac_le (zpop c) (by omega)
            have hf2 := zfac_le (n - 1 - zpop c) (by omega)
            have hRN : zPr N 35 (w, n, mm, cd, rd) := zPr_fr hR0 hNf zPc_35 (by omega) (by omega)
            refine z_if_ne_n (tgt := 110) hx (by decide) dX6_share_44 (by decide) (fun h => absurd h (by decide)) (fun _ => ?_)
            refine z_iload hx 0 dX6_share_47 rfl ?_
            refine z_callS hx (As := [.int (nI c)]) (st := []) (k_X6_ones hI N c (by omega)) zw_781 zy_X6_ones ⟨rfl, rfl⟩ (by decide) rfl rfl (Nat.le_of_ble_eq_true rfl) dX6_share_49 ?_
            rintro _ M49 ⟨v49, rfl, q49⟩
            obtain ⟨rfl, q49⟩ := q49
            rw [q49]
            show zJ E x 52 _ [.int (nI (zpop c))] _
            refine z_istore hx (lv2 := [(8, .int (nI (zpop c))), (7, .int (nI c)), (5, .long (Int64.ofInt ((zshr (w, n, mm, cd, rd) d j c : Nat) : Int))), (4, .int (nI n)), (0, .ref (E.2.2.2 32)), (1, .int (nI j)), (2, .int (zdr d)), (3, .int (zdr up))]) dX6_share_52 (by decide) rfl ?_
            refine z_aload_n hx 4 dX6_share_54 rfl rfl ?_
            refine z_aload_n hx 4 dX6_share_55 rfl rfl ?_
            refine zg_X6_7 hx zw_583 dX6_share_56 ?_
            refine z_iload hx 1 dX6_share_59 rfl ?_
            refine z_iconst hx (v := nI 1) dX6_share_61 (by decide +kernel) ?_
            refine z_iload_n hx 5 dX6_share_62 rfl rfl ?_
            refine z_ishl hx dX6_share_63 ?_
            refine z_eqi (b := nI (2 ^ j)) (zshl1 (n := j) (by omega)) ?_
            refine z_ior hx dX6_share_64 ?_
            refine z_eqi (b := nI (c ||| 2 ^ j)) (znI_or _ _) ?_
            refine z_iload_n hx 6 dX6_share_65 rfl rfl ?_
            refine z_callV hx (As := [.ref (E.2.2.2 35), .int (nI (c ||| 2 ^ j)), .int (zdr d)]) (st := []) (k_X6_rankOf hI N zPc_35 hRN (s := c ||| 2 ^ j) (by omega) d (ρ := zrk (w, n, mm, cd, rd) d (c ||| 2 ^ j)) (zrk_rp (r := (w, n, mm, cd, rd)) hk.1 d (by show c ||| 2 ^ j < 2 ^ n; omega))) zw_755 zy_X6_rankOf ⟨rfl, rfl⟩ (by decide) (zOB_X6 E) rfl rfl rfl rfl (Nat.le_of_ble_eq_true rfl) dX6_share_66 ?_
            rintro _ M66 ⟨v66, rfl, q66⟩
            have q66v := q66.1
            subst q66v
            show zJ E x 69 _ [.int (nI (zrk (w, n, mm, cd, rd) d (c ||| 2 ^ j)))] _
            refine z_aload_n hx 4 dX6_share_69 rfl rfl ?_
            refine z_aload_n hx 4 dX6_share_70 rfl rfl ?_
            refine zg_X6_7 hx zw_583 dX6_share_71 ?_
            refine z_iload hx 1 dX6_share_74 rfl ?_
            refine z_iload_n hx 6 dX6_share_76 rfl rfl ?_
            refine z_callV hx (As := [.ref (E.2.2.2 35), .int (nI c), .int (zdr d)]) (st := [.int (nI (zrk (w, n, mm, cd, rd) d (c ||| 2 ^ j)))]) (k_X6_rankOf hI M66 zPc_35 (zPr_fr hRN q66.2 zPc_35 (by omega) (by omega)) (s := c) (by omega) d (ρ := zrk (w, n, mm, cd, rd) d c) (zrk_rp (r := (w, n, mm, cd, rd)) hk.1 d (by show c < 2 ^ n; omega))) zw_755 zy_X6_rankOf ⟨rfl, rfl⟩ (by decide) (zOB_X6 E) rfl rfl rfl rfl (Nat.le_of_ble_eq_true rfl) dX6_share_77 ?_
            rintro _ M77 ⟨v77, rfl, q77⟩
            have q77v := q77.1
            subst q77v
            show zJ E x 80 _ [.int (nI (zrk (w, n, mm, cd, rd) d c)), .int (nI (zrk (w, n, mm, cd, rd) d (c ||| 2 ^ j)))] _
            refine z_isub_n hx (by omega) dX6_share_80 ?_
            refine z_istore hx (lv2 := [(9, .int (nI ((zrk (w, n, mm, cd, rd) d (c ||| 2 ^ j)) - (zrk (w, n, mm, cd, rd) d c)))), (8, .int (nI (zpop c))), (7, .int (nI c)), (5, .long (Int64.ofInt ((zshr (w, n, mm, cd, rd) d j c : Nat) : Int))), (4, .int (nI n)), (0, .ref (E.2.2.2 32)), (1, .int (nI j)), (2, .int (zdr d)), (3, .int (zdr up))]) dX6_share_81 (by decide) rfl ?_
            refine z_lload hx 3 dX6_share_83 rfl ?_
            refine z_iload hx 1 dX6_share_85 rfl ?_
            refine z_callS hx (As := [.int (nI (zpop c))]) (st := [.long (Int64.ofInt ((zshr (w, n, mm, cd, rd) d j c : Nat) : Int))]) (k_X6_factorial hI M77 (zpop c) (by omega)) zw_882 zy_X6_factorial ⟨rfl, rfl⟩ (by decide) rfl rfl (Nat.le_of_ble_eq_true rfl) dX6_share_87 ?_
            rintro _ M87 ⟨v87, rfl, q87⟩
            obtain ⟨rfl, q87⟩ := q87
            rw [q87]
            show zJ E x 90 _ [.int (nI (zfac (zpop c))), .long (Int64.ofInt ((zshr (w, n, mm, cd, rd) d j c : Nat) : Int))] _
            refine z_i2l hx dX6_share_90 ?_
            refine z_iload hx 4 dX6_share_91 rfl ?_
            refine z_iconst hx (v := nI 1) dX6_share_93 (by decide +kernel) ?_
            refine z_isub_n hx (by omega) dX6_share_94 ?_
            refine z_iload hx 1 dX6_share_95 rfl ?_
            refine z_isub_n hx (by omega) dX6_share_97 ?_
            refine z_callS hx (As := [.int (nI ((n - 1) - (zpop c)))]) (st := [.long ((nI (zfac (zpop c))).toInt64), .long (Int64.ofInt ((zshr (w, n, mm, cd, rd) d j c : Nat) : Int))]) (k_X6_factorial hI M77 (n - 1 - zpop c) (by omega)) zw_882 zy_X6_factorial ⟨rfl, rfl⟩ (by decide) rfl rfl (Nat.le_of_ble_eq_true rfl) dX6_share_98 ?_
            rintro _ M98 ⟨v98, rfl, q98⟩
            obtain ⟨rfl, q98⟩ := q98
            rw [q98]
            show zJ E x 101 _ [.int (nI (zfac (n - 1 - zpop c))), .long ((nI (zfac (zpop c))).toInt64), .long (Int64.ofInt ((zshr (w, n, mm, cd, rd) d j c : Nat) : Int))] _
            refine z_i2l hx dX6_share_101 ?_
            refine z_lmul hx dX6_share_102 ?_
            refine z_iload hx 0 dX6_share_103 rfl ?_
            refine z_i2l hx dX6_share_105 ?_
            refine z_lmul hx dX6_share_106 ?_
            refine z_ladd hx dX6_share_107 ?_
            refine z_eql (b := Int64.ofInt ((zshr (w, n, mm, cd, rd) d j (c + 1) : Nat) : Int)) (by rw [znl (by omega), znl (by omega), znl (by omega), zI64_mul, zI64_mul, zI64_add, zshr_y hyes hst.1 hst.2, Int.natCast_add, Int.natCast_mul, Int.natCast_mul]) ?_
            refine z_lstore hx (lv2 := [(5, .long (Int64.ofInt ((zshr (w, n, mm, cd, rd) d j (c + 1) : Nat) : Int))), (9, .int (nI ((zrk (w, n, mm, cd, rd) d (c ||| 2 ^ j)) - (zrk (w, n, mm, cd, rd) d c)))), (8, .int (nI (zpop c))), (7, .int (nI c)), (4, .int (nI n)), (0, .ref (E.2.2.2 32)), (1, .int (nI j)), (2, .int (zdr d)), (3, .int (zdr up))]) dX6_share_108 (by decide) rfl ?_
            refine z_iinc hx (w := nI (c + 1)) (lv2 := [(7, .int (nI (c + 1))), (5, .long (Int64.ofInt ((zshr (w, n, mm, cd, rd) d j (c + 1) : Nat) : Int))), (9, .int (nI ((zrk (w, n, mm, cd, rd) d (c ||| 2 ^ j)) - (zrk (w, n, mm, cd, rd) d c)))), (8, .int (nI (zpop c))), (4, .int (nI n)), (0, .ref (E.2.2.2 32)), (1, .int (nI j)), (2, .int (zdr d)), (3, .int (zdr up))]) 3 dX6_share_110 rfl (z_inc _) (by decide) rfl ?_
            refine z_goto (tgt := 29) hx dX6_share_113 (by decide) ?_
            exact z_to (ih29 (c + 1) M77 (by omega) (zfm_tr hNf (zfm_tr q66.2 q77.2)) (by omega)) [0, 1, 4, 5, 6, 7, 8] rfl rfl
    exact z_to (loop29 _ 0 (zputI M 32 0 (nI 0)) (Nat.zero_le _) (zfm_rf _ _ _) (Nat.lt_succ_self _)) [0, 1, 2, 3, 4, 5, 6] (by rw [show (0 : Int64) = Int64.ofInt 0 by decide +kernel]; rfl) rfl
  · skip
    show zJ E x 10 _ [.int (nI 1)] _
    refine z_if_eq_n (tgt := 15) hx (by decide) dX6_share_10 (by decide) (fun h => absurd h (by decide)) (fun _ => ?_)
    refine z_iconst hx (v := (-1)) dX6_share_13 rfl ?_
    exact ri _ _ _ _ rfl ⟨_, rfl, ⟨by rw [zop_share, if_pos q7], zMs_t hσ2, zfN_t⟩⟩ dX6_share_14
set_option maxHeartbeats 4000000 in
set_option maxRecDepth 100000 in
theorem k_X6_lost {E : zE} (hI : zI E) (M : zM) {σ : zSt} (hσ : zMs M σ) (hk : zSk σ) (t : Int32) (d up : Bool) : zK E yX6_lost (.code yX6_lost cX6_lost 9 (some .int)) (zrm 5 121) [.ref (E.2.2.2 32), .int t, .int (zdr d), .int (zdr up)] M (zpi (fun v M2 => v = zop_lost σ.2.2.1 t d up ∧ zMs M2 σ ∧ zfN M M2)) := by
  refine zK_of hI (by decide) (Nat.le_of_ble_eq_true rfl) (fun x hx ri rz rl rv => ?_)
  show zJ E x 0 [(0, .ref (E.2.2.2 32)), (1, .int t), (2, .int (zdr d)), (3, .int (zdr up))] [] M
  obtain ⟨tx, len, ⟨w, n, mm, cd, rd⟩, as, s, sl, sd⟩ := σ
  have hσ2 := hσ
  obtain ⟨⟨hL, hT⟩, hW, hP, ⟨hs, hA⟩, hS, hsd⟩ := hσ
  have hv := hk.1
  have hw4 : 1 ≤ w ∧ w ≤ 4 := hv.1
  have hmm : mm ≤ 99 := hv.2.1
  have hn8 : n ≤ 8 := hv.2.2.1
  have hlen : len ≤ 90 := hk.2.1.1
  have hs14 : s ≤ 14 := hk.2.2.1
  have hL : M.1 32 2 = nI len := hL
  have hW : M.1 32 4 = nI w := hW
  have hs : M.1 32 11 = nI s := hs
  have hsd : M.2 32 14 = sd := hsd
  have hP0 : M.1 35 0 = nI mm := hP.1
  have hP1 : M.1 35 1 = nI n := hP.2.1
  have hP2 : ∀ t, t < n → M.1 35 (2 + t) = nI (cd t) ∧ M.1 35 (10 + t) = Int32.ofInt (rd t) := hP.2.2
  have hT : ∀ k, k < 90 → M.1 33 k = nI (tx k) := hT
  have hR0 : zPr (zputI M 32 0 (nI 0)) 35 (w, n, mm, cd, rd) := zPr_t hσ2 hk
  have hpn := zp2 hn8
  have hu := zunk_le hw4.2 d
  have h10n := zp10 hn8
  refine z_aload_n hx 0 dX6_lost_0 rfl rfl ?_
  refine z_iconst hx (v := nI 0) dX6_lost_1 (by decide +kernel) ?_
  refine zp_X6_0 hx zw_576 dX6_lost_2 ?_
  refine z_iload_n hx 1 dX6_lost_5 rfl rfl ?_
  refine z_i2l hx dX6_lost_6 ?_
  refine z_lconst hx (v := 0) dX6_lost_7 rfl ?_
  refine z_ldc2 hx zw_889 dX6_lost_8 ?_
  refine z_callS hx (As := [.long t.toInt64, .long 0, .long (10)]) (st := []) (k_X6_in hI (zputI M 32 0 (nI 0)) t.toInt64 0 (10)) zw_654 zy_X6_in ⟨rfl, rfl⟩ (by decide) rfl rfl (Nat.le_of_ble_eq_true rfl) dX6_lost_11 ?_
  rintro _ M11 ⟨v11, rfl, q11⟩
  obtain ⟨q11, hmm⟩ := q11
  rw [hmm]
  rw [zin_x (m := 10) (by decide) (by decide +kernel)] at q11
  rcases q11 with ⟨q11, rfl⟩ | ⟨q11, rfl⟩
  · skip
    show zJ E x 14 _ [.int (nI 1)] _
    obtain ⟨j, hj, rfl⟩ := zle_nI (by decide) (znot q11).1 (Classical.not_not.mp (znot q11).2)
    refine z_if_ne_n (tgt := 20) hx (by decide) dX6_lost_14 (by decide) (fun _ => ?_) (fun h => absurd h (by decide))
    refine z_aload_n hx 0 dX6_lost_20 rfl rfl ?_
    refine zg_X6_7 hx zw_583 dX6_lost_21 ?_
    refine z_iconst hx (v := nI 1) dX6_lost_24 (by decide +kernel) ?_
    refine z_iald_n hx (zIA_35 E) (by omega) dX6_lost_25 ?_
    refine z_eqi (b := nI n) (zskI (by omega) hP1) ?_
    refine z_istore hx (lv2 := [(4, .int (nI n)), (0, .ref (E.2.2.2 32)), (1, .int (nI j)), (2, .int (zdr d)), (3, .int (zdr up))]) dX6_lost_26 (by decide) rfl ?_
    refine z_lconst hx (v := 0) dX6_lost_28 rfl ?_
    refine z_lstore hx (lv2 := [(5, .long 0), (4, .int (nI n)), (0, .ref (E.2.2.2 32)), (1, .int (nI j)), (2, .int (zdr d)), (3, .int (zdr up))]) dX6_lost_29 (by decide) rfl ?_
    refine z_iconst hx (v := nI 0) dX6_lost_31 (by decide +kernel) ?_
    refine z_istore hx (lv2 := [(7, .int (nI 0)), (5, .long 0), (4, .int (nI n)), (0, .ref (E.2.2.2 32)), (1, .int (nI j)), (2, .int (zdr d)), (3, .int (zdr up))]) dX6_lost_32 (by decide) rfl ?_
    have loop34 : ∀ (fuel34 : Nat) (c : Nat) (N : zM) (_ : c ≤ 2 ^ n) (_ : zfL (zputI M 32 0 (nI 0)) N), 2 ^ n - c < fuel34 → zJ E x 34 [(7, .int (nI c)), (5, .long (Int64.ofInt ((zlst (w, n, mm, cd, rd) d j c : Nat) : Int))), (4, .int (nI n)), (0, .ref (E.2.2.2 32)), (1, .int (nI j)), (2, .int (zdr d)), (3, .int (zdr up))] [] N := by
      intro fuel34
      induction fuel34 with
      | zero =>
        intros; omega
      | succ fuel34 ih34 =>
        intro c N hc hNf hfuel34
        refine z_iload hx 0 dX6_lost_34 rfl ?_
        refine z_iconst hx (v := nI 1) dX6_lost_36 (by decide +kernel) ?_
        refine z_iload hx 2 dX6_lost_37 rfl ?_
        refine z_ishl hx dX6_lost_39 ?_
        refine z_eqi (b := nI (2 ^ n)) (zshl1 hn8) ?_
        refine z_icmp_ge_n (tgt := 99) hx (by omega) (by omega) dX6_lost_40 (by decide) (fun h40 => ?_) (fun h40 => ?_)
        · skip
          refine z_aload_n hx 3 dX6_lost_99 rfl rfl ?_
          refine z_lload hx 1 dX6_lost_100 rfl ?_
          refine z_bipush hx (v := nI 10) dX6_lost_102 (by decide +kernel) ?_
          refine z_iload hx 2 dX6_lost_104 rfl ?_
          refine z_callS hx (As := [.int (nI 10), .int (nI n)]) (st := [.long (Int64.ofInt ((zlst (w, n, mm, cd, rd) d j c : Nat) : Int)), .ref (E.2.2.2 32)]) (k_X6_power hI N 10 n (by omega)) zw_712 zy_X6_power ⟨rfl, rfl⟩ (by decide) rfl rfl (Nat.le_of_ble_eq_true rfl) dX6_lost_106 ?_
          rintro _ M106 ⟨v106, rfl, q106⟩
          obtain ⟨rfl, q106⟩ := q106
          rw [q106]
          show zJ E x 109 _ [.int (nI (10 ^ n)), .long (Int64.ofInt ((zlst (w, n, mm, cd, rd) d j c : Nat) : Int)), .ref (E.2.2.2 32)] _
          refine z_i2l hx dX6_lost_109 ?_
          rw [show c = 2 ^ n by omega]
          refine z_eql (b := Int64.ofInt (((10 ^ n : Nat)) : Int)) (znl (by omega)) ?_
          refine z_callV hx (As := [.long (Int64.ofInt ((zlst (w, n, mm, cd, rd) d j (2 ^ n) : Nat) : Int)), .long (Int64.ofInt (((10 ^ n : Nat)) : Int))]) (st := []) (k_X6_layFraction hI N ((zlst (w, n, mm, cd, rd) d j (2 ^ n) : Nat) : Int) (10 ^ n) (by have h := zlst_le (r := (w, n, mm, cd, rd)) (d := d) (j := j) hj hn8 (2 ^ n) (Nat.le_refl _); have h2 : 2 ^ n * 100000000 ≤ 256 * 100000000 := Nat.mul_le_mul_right _ hpn.2; unfold zrg; omega) (by omega) (by omega)) zw_806 zy_X6_layFraction ⟨rfl, rfl⟩ (by decide) (zOB_X6 E) rfl rfl rfl rfl (Nat.le_of_ble_eq_true rfl) dX6_lost_110 ?_
          rintro _ M110 ⟨rfl, q110⟩
          show zJ E x 113 _ [] _
          refine z_aload_n hx 3 dX6_lost_113 rfl rfl ?_
          refine z_iload_n hx 6 dX6_lost_114 rfl rfl ?_
          refine z_callV hx (As := [.int (zdr up)]) (st := []) (k_X6_told hI M110 q110.1 q110.2.1 up) zw_813 zy_X6_told ⟨rfl, rfl⟩ (by decide) (zOB_X6 E) rfl rfl rfl rfl (Nat.le_of_ble_eq_true rfl) dX6_lost_115 ?_
          rintro _ M115 ⟨v115, rfl, q115⟩
          obtain ⟨rfl, q115⟩ := q115
          rw [q115]
          show zJ E x 118 _ [.long (Int64.ofInt (zTold ((zlst (w, n, mm, cd, rd) d j (2 ^ n) : Nat) : Int) (10 ^ n) up))] _
          refine z_l2i hx dX6_lost_118 ?_
          exact ri _ _ _ _ rfl ⟨_, rfl, ⟨by rw [zop_lost, if_neg q11, nI_clamp (by omega)], zMs_L hσ2 (zfm_tr hNf (zfm_w q110.2.2 (fun c z => False.elim z) (fun k z => by omega)))⟩⟩ dX6_lost_119
        · skip
          refine z_iload hx 0 dX6_lost_43 rfl ?_
          refine z_callS hx (As := [.int (nI c)]) (st := []) (k_X6_ones hI N c (by omega)) zw_781 zy_X6_ones ⟨rfl, rfl⟩ (by decide) rfl rfl (Nat.le_of_ble_eq_true rfl) dX6_lost_45 ?_
          rintro _ M45 ⟨v45, rfl, q45⟩
          obtain ⟨rfl, q45⟩ := q45
          rw [q45]
          show zJ E x 48 _ [.int (nI (zpop c))] _
          have hpl := zpop_le c (by omega) n (by omega) (by omega)
          refine z_istore hx (lv2 := [(8, .int (nI (zpop c))), (7, .int (nI c)), (5, .long (Int64.ofInt ((zlst (w, n, mm, cd, rd) d j c : Nat) : Int))), (4, .int (nI n)), (0, .ref (E.2.2.2 32)), (1, .int (nI j)), (2, .int (zdr d)), (3, .int (zdr up))]) dX6_lost_48 (by decide) rfl ?_
          refine z_lload hx 2 dX6_lost_50 rfl ?_
          refine z_aload_n hx 4 dX6_lost_52 rfl rfl ?_
          refine z_aload_n hx 4 dX6_lost_53 rfl rfl ?_
          refine zg_X6_7 hx zw_583 dX6_lost_54 ?_
          refine z_iload hx 1 dX6_lost_57 rfl ?_
          refine z_iload_n hx 6 dX6_lost_59 rfl rfl ?_
          refine z_callV hx (As := [.ref (E.2.2.2 35), .int (nI c), .int (zdr d)]) (st := [.long (Int64.ofInt ((zlst (w, n, mm, cd, rd) d j c : Nat) : Int))]) (k_X6_isLaid hI N zPc_35 (zPr_fr hR0 hNf zPc_35 (by omega) (by omega)) (s := c) (by omega) d) zw_801 zy_X6_isLaid ⟨rfl, rfl⟩ (by decide) (zOB_X6 E) rfl rfl rfl rfl (Nat.le_of_ble_eq_true rfl) dX6_lost_60 ?_
          rintro _ M60 ⟨v60, rfl, q60⟩
          obtain ⟨q60, hGl, q60f⟩ := q60
          rcases q60 with ⟨hne, rfl⟩ | ⟨hze, rfl⟩
          · skip
            show zJ E x 63 _ [.int (nI 1), .long (Int64.ofInt ((zlst (w, n, mm, cd, rd) d j c : Nat) : Int))] _
            have hful := (zrk_full (r := (w, n, mm, cd, rd)) hk.1 (zrk_rp (r := (w, n, mm, cd, rd)) hk.1 d (s := c) (by show c < 2 ^ n; omega))).mpr hne
            have hpw := zpw_le (j := j) (p := zpop c) (m := n) (by omega) (by omega)
            have hcm : (10 - j) ^ zpop c * j ^ (n - zpop c) = j ^ (n - zpop c) * (10 - j) ^ zpop c := Nat.mul_comm _ _
            refine z_if_eq_n (tgt := 89) hx (by decide) dX6_lost_63 (by decide) (fun h => absurd h (by decide)) (fun _ => ?_)
            refine z_iload_n hx 5 dX6_lost_66 rfl rfl ?_
            refine z_iload hx 3 dX6_lost_67 rfl ?_
            refine z_iload hx 0 dX6_lost_69 rfl ?_
            refine z_isub_n hx (by omega) dX6_lost_71 ?_
            refine z_callS hx (As := [.int (nI j), .int (nI (n - (zpop c)))]) (st := [.long (Int64.ofInt ((zlst (w, n, mm, cd, rd) d j c : Nat) : Int))]) (k_X6_power hI M60 j (n - (zpop c)) (by omega)) zw_712 zy_X6_power ⟨rfl, rfl⟩ (by decide) rfl rfl (Nat.le_of_ble_eq_true rfl) dX6_lost_72 ?_
            rintro _ M72 ⟨v72, rfl, q72⟩
            obtain ⟨rfl, q72⟩ := q72
            rw [q72]
            show zJ E x 75 _ [.int (nI (j ^ (n - (zpop c)))), .long (Int64.ofInt ((zlst (w, n, mm, cd, rd) d j c : Nat) : Int))] _
            refine z_bipush hx (v := nI 10) dX6_lost_75 (by decide +kernel) ?_
            refine z_iload_n hx 5 dX6_lost_77 rfl rfl ?_
            refine z_isub_n hx (by omega) dX6_lost_78 ?_
            refine z_iload hx 0 dX6_lost_79 rfl ?_
            refine z_callS hx (As := [.int (nI (10 - j)), .int (nI (zpop c))]) (st := [.int (nI (j ^ (n - (zpop c)))), .long (Int64.ofInt ((zlst (w, n, mm, cd, rd) d j c : Nat) : Int))]) (k_X6_power hI M60 (10 - j) (zpop c) (by omega)) zw_712 zy_X6_power ⟨rfl, rfl⟩ (by decide) rfl rfl (Nat.le_of_ble_eq_true rfl) dX6_lost_81 ?_
            rintro _ M81 ⟨v81, rfl, q81⟩
            obtain ⟨rfl, q81⟩ := q81
            rw [q81]
            show zJ E x 84 _ [.int (nI ((10 - j) ^ (zpop c))), .int (nI (j ^ (n - (zpop c)))), .long (Int64.ofInt ((zlst (w, n, mm, cd, rd) d j c : Nat) : Int))] _
            refine z_imul_n hx dX6_lost_84 ?_
            refine z_i2l hx dX6_lost_85 ?_
            refine z_goto (tgt := 90) hx dX6_lost_86 (by decide) ?_
            refine z_ladd hx dX6_lost_90 ?_
            refine z_eql (b := Int64.ofInt ((zlst (w, n, mm, cd, rd) d j (c + 1) : Nat) : Int)) (by rw [znl (by omega), zI64_add, zlst_y (r := (w, n, mm, cd, rd)) hful, Int.natCast_add]) ?_
            refine z_lstore hx (lv2 := [(5, .long (Int64.ofInt ((zlst (w, n, mm, cd, rd) d j (c + 1) : Nat) : Int))), (8, .int (nI (zpop c))), (7, .int (nI c)), (4, .int (nI n)), (0, .ref (E.2.2.2 32)), (1, .int (nI j)), (2, .int (zdr d)), (3, .int (zdr up))]) dX6_lost_91 (by decide) rfl ?_
            refine z_iinc hx (w := nI (c + 1)) (lv2 := [(7, .int (nI (c + 1))), (5, .long (Int64.ofInt ((zlst (w, n, mm, cd, rd) d j (c + 1) : Nat) : Int))), (8, .int (nI (zpop c))), (4, .int (nI n)), (0, .ref (E.2.2.2 32)), (1, .int (nI j)), (2, .int (zdr d)), (3, .int (zdr up))]) 2 dX6_lost_93 rfl (z_inc _) (by decide) rfl ?_
            refine z_goto (tgt := 34) hx dX6_lost_96 (by decide) ?_
            exact z_to (ih34 (c + 1) M60 (by omega) (zfm_tr hNf q60f) (by omega)) [0, 1, 3, 4, 5, 6, 7] rfl rfl
          · skip
            show zJ E x 63 _ [.int (nI 0), .long (Int64.ofInt ((zlst (w, n, mm, cd, rd) d j c : Nat) : Int))] _
            have hnf : ¬ zrk (w, n, mm, cd, rd) d c = zunk w d := fun z => (zrk_full (r := (w, n, mm, cd, rd)) hk.1 (zrk_rp (r := (w, n, mm, cd, rd)) hk.1 d (s := c) (by show c < 2 ^ n; omega))).mp z hze
            refine z_if_eq_n (tgt := 89) hx (by decide) dX6_lost_63 (by decide) (fun _ => ?_) (fun h => absurd h (by decide))
            refine z_lconst hx (v := 0) dX6_lost_89 rfl ?_
            refine z_ladd hx dX6_lost_90 ?_
            refine z_eql (b := Int64.ofInt ((zlst (w, n, mm, cd, rd) d j (c + 1) : Nat) : Int)) (by rw [zlst_n (r := (w, n, mm, cd, rd)) hnf, show (0 : Int64) = Int64.ofInt 0 by decide +kernel, zI64_add, Int.add_zero]) ?_
            refine z_lstore hx (lv2 := [(5, .long (Int64.ofInt ((zlst (w, n, mm, cd, rd) d j (c + 1) : Nat) : Int))), (8, .int (nI (zpop c))), (7, .int (nI c)), (4, .int (nI n)), (0, .ref (E.2.2.2 32)), (1, .int (nI j)), (2, .int (zdr d)), (3, .int (zdr up))]) dX6_lost_91 (by decide) rfl ?_
            refine z_iinc hx (w := nI (c + 1)) (lv2 := [(7, .int (nI (c + 1))), (5, .long (Int64.ofInt ((zlst (w, n, mm, cd, rd) d j (c + 1) : Nat) : Int))), (8, .int (nI (zpop c))), (4, .int (nI n)), (0, .ref (E.2.2.2 32)), (1, .int (nI j)), (2, .int (zdr d)), (3, .int (zdr up))]) 2 dX6_lost_93 rfl (z_inc _) (by decide) rfl ?_
            refine z_goto (tgt := 34) hx dX6_lost_96 (by decide) ?_
            exact z_to (ih34 (c + 1) M60 (by omega) (zfm_tr hNf q60f) (by omega)) [0, 1, 3, 4, 5, 6, 7] rfl rfl
    exact z_to (loop34 _ 0 (zputI M 32 0 (nI 0)) (Nat.zero_le _) (zfm_rf _ _ _) (Nat.lt_succ_self _)) [0, 1, 2, 3, 4, 5, 6] (by rw [show (0 : Int64) = Int64.ofInt 0 by decide +kernel]; rfl) rfl
  · skip
    show zJ E x 14 _ [.int (nI 0)] _
    refine z_if_ne_n (tgt := 20) hx (by decide) dX6_lost_14 (by decide) (fun h => absurd h (by decide)) (fun _ => ?_)
    refine z_bipush hx (v := (-2)) dX6_lost_17 rfl ?_
    exact ri _ _ _ _ rfl ⟨_, rfl, ⟨by rw [zop_lost, if_pos (Classical.byContradiction q11)], zMs_t hσ2, zfN_t⟩⟩ dX6_lost_19
