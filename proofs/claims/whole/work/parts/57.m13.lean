theorem ztd (a : Int) {b : Nat} (hb : 0 < b) : ∃ g : Int, 0 < g ∧ zTold a b true * g = a ∧ zTold a b false * g = (b : Int) := by
  refine ⟨((Nat.gcd a.natAbs b : Nat) : Int), by have := Nat.gcd_pos_of_pos_right a.natAbs hb; omega, ?_, ?_⟩
  · rw [zTold, if_pos rfl]
    exact Int.ediv_mul_cancel zgcd_dvd
  · rw [zTold, if_neg (by decide)]
    exact Int.ediv_mul_cancel (Int.natCast_dvd_natCast.mpr (Nat.gcd_dvd_right _ _))
theorem zredc {x1 x0 : Int} {y1 y0 : Nat} (h1 : 0 < y1) (h0 : 0 < y0) : zTold x1 y1 true * zTold x0 y0 false < zTold x0 y0 true * zTold x1 y1 false ↔ x1 * (y0 : Int) < x0 * (y1 : Int) := by
  obtain ⟨g1, p1, a1, b1⟩ := ztd x1 h1
  obtain ⟨g0, p0, a0, b0⟩ := ztd x0 h0
  generalize zTold x1 y1 true = u1 at *
  generalize zTold x1 y1 false = l1 at *
  generalize zTold x0 y0 true = u0 at *
  generalize zTold x0 y0 false = l0 at *
  have e1 : x1 * (y0 : Int) = (u1 * l0) * (g1 * g0) := by rw [← a1, ← b0]; grind
  have e2 : x0 * (y1 : Int) = (u0 * l1) * (g1 * g0) := by rw [← a0, ← b1]; grind
  rw [e1, e2]
  exact Iff.symm (Int.mul_lt_mul_right (Int.mul_pos p1 p0))
theorem zdivb {u g a b : Int} (hg : 0 < g) (e : u * g = a) (h : zab a b) : zab u b := by
  have e2 : u.natAbs * g.natAbs = a.natAbs := by rw [← Int.natAbs_mul, e]
  have e3 : u.natAbs ≤ u.natAbs * g.natAbs := Nat.le_mul_of_pos_right _ (by omega)
  unfold zab at *
  omega
theorem zTold_up {a b : Int} {c : Nat} (hc : 0 < c) (h : zab a b) (s : Bool) (hb : zab (c : Int) b) : zab (zTold a c s) b := by
  obtain ⟨g, p, h1, h2⟩ := ztd a hc
  cases s
  · exact zdivb p h2 hb
  · exact zdivb p h1 h
theorem zTold_u {a b : Int} {c : Nat} (hc : 0 < c) (h : zab a b) : zab (zTold a c true) b := by
  obtain ⟨g, p, h1, h2⟩ := ztd a hc
  exact zdivb p h1 h
theorem zTold_l {a b : Int} {c : Nat} (hc : 0 < c) (hb : (c : Int) ≤ b) : zab (zTold a c false) b := by
  obtain ⟨g, p, h1, h2⟩ := ztd a hc
  exact zdivb p h2 (by unfold zab; omega)
def zru (o : Option (Nat × Int × Int)) : Int := zTold (zba o) (zbb o).natAbs true
def zrl (o : Option (Nat × Int × Int)) : Int := zTold (zba o) (zbb o).natAbs false
def zgdo (o : Option (Nat × Int × Int)) : Prop := zab (zba o) 6000000000000 ∧ 0 < zbb o ∧ zbb o ≤ 600000
theorem zqd_g {r : zRo} (hv : zVr r) (d : Bool) {t : Nat} {a b : Int} (h : zqd r d t = some (a, b)) : zab a 6000000000000 ∧ 0 < b ∧ b ≤ 600000 := by
  unfold zqd at h
  split at h
  case isTrue q =>
    cases h
    exact ⟨zS_in hv d _ q, q, (zD_in hv d _).2⟩
  case isFalse q => cases h
theorem zgdo_b {r : zRo} (hv : zVr r) (d : Bool) (t : Nat) : zgdo (zbest (zqd r d) t) := by
  cases h : zbest (zqd r d) t with
  | none => exact ⟨⟨by decide, by decide⟩, by decide, by decide⟩
  | some o =>
    obtain ⟨i, a, b⟩ := o
    exact zqd_g hv d (zbest_mem h).2
theorem zlt_red {a1 b1 : Int} {o : Option (Nat × Int × Int)} (h1 : zab a1 6000000000000) (h2 : 0 < b1) (h3 : b1 ≤ 600000) (ho : zgdo o) : (Int64.ofInt (zTold a1 b1.natAbs true) * Int64.ofInt (zrl o) < Int64.ofInt (zru o) * Int64.ofInt (zTold a1 b1.natAbs false)) ↔ a1 * zbb o < zba o * b1 := by
  obtain ⟨o1, o2, o3⟩ := ho
  have c1 := zTold_u (c := b1.natAbs) (by omega) h1
  have c2 := zTold_l (a := a1) (c := b1.natAbs) (b := 600000) (by omega) (by omega)
  have c3 := zTold_u (c := (zbb o).natAbs) (by omega) o1
  have c4 := zTold_l (a := zba o) (c := (zbb o).natAbs) (b := 600000) (by omega) (by omega)
  unfold zru zrl
  rw [zI64_mul, zI64_mul, zlt64 (zab_rg (zab_mul2 (by decide) (by decide) c1 c4) (by decide)) (zab_rg (zab_mul2 (by decide) (by decide) c3 c2) (by decide))]
  rw [zredc (by omega) (by omega)]
  have e1 : ((zbb o).natAbs : Int) = zbb o := by omega
  have e2 : (b1.natAbs : Int) = b1 := by omega
  rw [e1, e2]
set_option maxHeartbeats 4000000 in
set_option maxRecDepth 100000 in
theorem k_X6_doubtfulOf {E : zE} (hI : zI E) (M : zM) {p w n mm : Nat} {cd : Nat → Nat} {rd : Nat → Int} (hp : zPc p) (hR : zPr M p (w, n, mm, cd, rd)) (d : Bool) : zK E yX6_doubtfulOf (.code yX6_doubtfulOf cX6_doubtfulOf 9 (some .int)) (zrm 5 121) [.ref (E.2.2.2 32), .ref (E.2.2.2 p), .int (zdr d)] M (zpi (fun v M2 => v = zop_doubtful (w, n, mm, cd, rd) d ∧ zfL M M2)) := by
  refine zK_of hI (by decide) (Nat.le_of_ble_eq_true rfl) (fun x hx ri rz rl rv => ?_)
  show zJ E x 0 [(0, .ref (E.2.2.2 32)), (1, .ref (E.2.2.2 p)), (2, .int (zdr d))] [] M
  have hp2 := id hp
  unfold zPc at hp2
  have hW : M.1 32 4 = nI w := hR.1
  have hP0 : M.1 p 0 = nI mm := hR.2.1.1
  have hP1 : M.1 p 1 = nI n := hR.2.1.2.1
  have hPt : ∀ t, t < n → M.1 p (2 + t) = nI (cd t) ∧ M.1 p (10 + t) = Int32.ofInt (rd t) := hR.2.1.2.2
  have hw4 : 1 ≤ w ∧ w ≤ 4 := hR.2.2.1
  have hmm9 : mm ≤ 99 := hR.2.2.2.1
  have hn8 : n ≤ 8 := hR.2.2.2.2.1
  have hV : ∀ t, t < n → zcode w (cd t) ∧ -1000 ≤ rd t ∧ rd t ≤ 1000 := hR.2.2.2.2.2
  have hu := zunk_le hw4.2 d
  have hpn := zp2 hn8
  refine z_bipush hx (v := (-9)) dX6_doubtfulOf_0 rfl ?_
  refine z_istore_n hx (lv2 := [(3, .int (-9)), (0, .ref (E.2.2.2 32)), (1, .ref (E.2.2.2 p)), (2, .int (zdr d))]) dX6_doubtfulOf_2 rfl (by decide) rfl ?_
  refine z_lconst hx (v := 0) dX6_doubtfulOf_3 rfl ?_
  refine z_lstore hx (lv2 := [(4, .long 0), (3, .int (-9)), (0, .ref (E.2.2.2 32)), (1, .ref (E.2.2.2 p)), (2, .int (zdr d))]) dX6_doubtfulOf_4 (by decide) rfl ?_
  refine z_lconst hx (v := 1) dX6_doubtfulOf_6 rfl ?_
  refine z_lstore hx (lv2 := [(6, .long 1), (4, .long 0), (3, .int (-9)), (0, .ref (E.2.2.2 32)), (1, .ref (E.2.2.2 p)), (2, .int (zdr d))]) dX6_doubtfulOf_7 (by decide) rfl ?_
  refine z_iconst hx (v := nI 0) dX6_doubtfulOf_9 (by decide +kernel) ?_
  refine z_istore hx (lv2 := [(8, .int (nI 0)), (6, .long 1), (4, .long 0), (3, .int (-9)), (0, .ref (E.2.2.2 32)), (1, .ref (E.2.2.2 p)), (2, .int (zdr d))]) dX6_doubtfulOf_10 (by decide) rfl ?_
  have loop12 : ∀ (fuel12 : Nat) (t : Nat) (N : zM) (_ : t ≤ n) (_ : zfL M N), n - t < fuel12 → zJ E x 12 [(8, .int (nI t)), (6, .long (Int64.ofInt (zrl (zbest (zqd (w, n, mm, cd, rd) d) t)))), (4, .long (Int64.ofInt (zru (zbest (zqd (w, n, mm, cd, rd) d) t)))), (3, .int (zbi (zbest (zqd (w, n, mm, cd, rd) d) t))), (0, .ref (E.2.2.2 32)), (1, .ref (E.2.2.2 p)), (2, .int (zdr d))] [] N := by
    intro fuel12
    induction fuel12 with
    | zero =>
      intros; omega
    | succ fuel12 ih12 =>
      intro t N ht hNf hfuel12
      refine z_iload hx 0 dX6_doubtfulOf_12 rfl ?_
      refine z_aload_n hx 5 dX6_doubtfulOf_14 rfl rfl ?_
      refine z_iconst hx (v := nI 1) dX6_doubtfulOf_15 (by decide +kernel) ?_
      refine z_iald_n hx (zIA_p hp E) (by omega) dX6_doubtfulOf_16 ?_
      refine z_eqi (b := nI n) (by rw [(zfm_c hNf (c := p) (by omega) (by omega)).1]; exact hP1) ?_
      refine z_icmp_ge_n (tgt := 89) hx (by omega) (by omega) dX6_doubtfulOf_17 (by decide) (fun h17 => ?_) (fun h17 => ?_)
      · skip
        refine z_iload_n hx 3 dX6_doubtfulOf_89 rfl rfl ?_
        exact ri _ _ _ _ rfl ⟨_, rfl, ⟨by rw [show t = n by omega]; rfl, hNf⟩⟩ dX6_doubtfulOf_90
      · skip
        have hsl : 2 ^ n - 1 - 2 ^ t < 256 := Nat.lt_of_le_of_lt (Nat.sub_le _ _) (by omega)
        refine z_aload_n hx 4 dX6_doubtfulOf_20 rfl rfl ?_
        refine z_aload_n hx 5 dX6_doubtfulOf_21 rfl rfl ?_
        refine z_aload_n hx 5 dX6_doubtfulOf_22 rfl rfl ?_
        refine z_callS hx (As := [.ref (E.2.2.2 p)]) (st := [.ref (E.2.2.2 p), .ref (E.2.2.2 32)]) (k_X6_allOf hI N (p := p) (n := n) hp (by rw [(zfm_c hNf (c := p) (by omega) (by omega)).1]; exact hP1) hn8) zw_752 zy_X6_allOf ⟨rfl, rfl⟩ (by decide) rfl rfl (Nat.le_of_ble_eq_true rfl) dX6_doubtfulOf_23 ?_
        rintro _ M23 ⟨v23, rfl, q23⟩
        obtain ⟨rfl, q23⟩ := q23
        rw [q23]
        show zJ E x 26 _ [.int (nI (2 ^ n - 1)), .ref (E.2.2.2 p), .ref (E.2.2.2 32)] _
        refine z_iconst hx (v := nI 1) dX6_doubtfulOf_26 (by decide +kernel) ?_
        refine z_iload hx 0 dX6_doubtfulOf_27 rfl ?_
        refine z_ishl hx dX6_doubtfulOf_29 ?_
        refine z_iconst hx (v := (-1)) dX6_doubtfulOf_30 rfl ?_
        refine z_ixor hx dX6_doubtfulOf_31 ?_
        refine z_iand hx dX6_doubtfulOf_32 ?_
        refine z_eqi (b := nI (2 ^ n - 1 - 2 ^ t)) (zmsk8 n (by omega) t (by omega)) ?_
        refine z_iload_n hx 6 dX6_doubtfulOf_33 rfl rfl ?_
        refine z_callV hx (As := [.ref (E.2.2.2 p), .int (nI (2 ^ n - 1 - 2 ^ t)), .int (zdr d)]) (st := []) (k_X6_isLaid hI N hp (zPr_fr hR hNf hp (by omega) (by omega)) (s := 2 ^ n - 1 - 2 ^ t) hsl d) zw_801 zy_X6_isLaid ⟨rfl, rfl⟩ (by decide) (zOB_X6 E) rfl rfl rfl rfl (Nat.le_of_ble_eq_true rfl) dX6_doubtfulOf_34 ?_
        rintro _ M34 ⟨v34, rfl, q34⟩
        rw [show zGm (w, n, mm, cd, rd) d (zst (2 ^ n - 1 - 2 ^ t)) = (zGm (w, n, mm, cd, rd) d (zbut t)) from zGm_bt (r := (w, n, mm, cd, rd)) d hn8 h17] at q34
        obtain ⟨q34, hGl, hfl⟩ := q34
        rcases q34 with ⟨hne, rfl⟩ | ⟨hze, rfl⟩
        · skip
          show zJ E x 37 _ [.int (nI 1)] _
          have hpos0 : 0 ≤ (zdet (zunk w d) (zGm (w, n, mm, cd, rd) d (zbut t))) := (zD_in (r := (w, n, mm, cd, rd)) hR.2.2 d (zbut t)).1
          have hpos : 0 < (zdet (zunk w d) (zGm (w, n, mm, cd, rd) d (zbut t))) := by omega
          have hq : zqd (w, n, mm, cd, rd) d t = some ((zSq (zGm (w, n, mm, cd, rd) d (zbut t)) (zunk w d)), (zdet (zunk w d) (zGm (w, n, mm, cd, rd) d (zbut t)))) := if_pos hpos
          have hg := zqd_g (r := (w, n, mm, cd, rd)) hR.2.2 d hq
          have hgo := zgdo_b (r := (w, n, mm, cd, rd)) hR.2.2 d t
          refine z_if_eq_n (tgt := 83) hx (by decide) dX6_doubtfulOf_37 (by decide) (fun h => absurd h (by decide)) (fun _ => ?_)
          refine z_aload_n hx 4 dX6_doubtfulOf_40 rfl rfl ?_
          refine z_callV hx (As := []) (st := []) (k_X6_laySquares hI M34 (r := (w, n, mm, cd, rd)) hR.2.2 hGl hne) zw_837 zy_X6_laySquares ⟨rfl, rfl⟩ (by decide) (zOB_X6 E) rfl rfl rfl rfl (Nat.le_of_ble_eq_true rfl) dX6_doubtfulOf_41 ?_
          rintro _ M41 ⟨rfl, q41⟩
          show zJ E x 44 _ [] _
          refine z_iload_n hx 3 dX6_doubtfulOf_44 rfl rfl ?_
          refine z_bipush hx (v := (-9)) dX6_doubtfulOf_45 rfl ?_
          refine z_icmp_eq (tgt := 68) hx dX6_doubtfulOf_47 (by decide) (fun h47 => ?_) (fun h47 => ?_)
          · skip
            have hnew := zbest_first hq ((zbi_none (fun i a b e => by have := (zbest_mem e).1; omega)).mp h47)
            refine z_iload hx 0 dX6_doubtfulOf_68 rfl ?_
            refine z_istore_n hx (lv2 := [(3, .int (nI t)), (8, .int (nI t)), (6, .long (Int64.ofInt (zrl (zbest (zqd (w, n, mm, cd, rd) d) t)))), (4, .long (Int64.ofInt (zru (zbest (zqd (w, n, mm, cd, rd) d) t)))), (0, .ref (E.2.2.2 32)), (1, .ref (E.2.2.2 p)), (2, .int (zdr d))]) dX6_doubtfulOf_70 rfl (by decide) rfl ?_
            refine z_aload_n hx 4 dX6_doubtfulOf_71 rfl rfl ?_
            refine zg_X6_22 hx zw_598 dX6_doubtfulOf_72 ?_
            refine z_eql (b := Int64.ofInt (zTold (zSq (zGm (w, n, mm, cd, rd) d (zbut t)) (zunk w d)) (zdet (zunk w d) (zGm (w, n, mm, cd, rd) d (zbut t))).natAbs true)) q41.1 ?_
            refine z_lstore hx (lv2 := [(4, .long (Int64.ofInt (zTold (zSq (zGm (w, n, mm, cd, rd) d (zbut t)) (zunk w d)) (zdet (zunk w d) (zGm (w, n, mm, cd, rd) d (zbut t))).natAbs true))), (3, .int (nI t)), (8, .int (nI t)), (6, .long (Int64.ofInt (zrl (zbest (zqd (w, n, mm, cd, rd) d) t)))), (0, .ref (E.2.2.2 32)), (1, .ref (E.2.2.2 p)), (2, .int (zdr d))]) dX6_doubtfulOf_75 (by decide) rfl ?_
            refine z_aload_n hx 4 dX6_doubtfulOf_77 rfl rfl ?_
            refine zg_X6_23 hx zw_599 dX6_doubtfulOf_78 ?_
            refine z_eql (b := Int64.ofInt (zTold (zSq (zGm (w, n, mm, cd, rd) d (zbut t)) (zunk w d)) (zdet (zunk w d) (zGm (w, n, mm, cd, rd) d (zbut t))).natAbs false)) q41.2.1 ?_
            refine z_lstore hx (lv2 := [(6, .long (Int64.ofInt (zTold (zSq (zGm (w, n, mm, cd, rd) d (zbut t)) (zunk w d)) (zdet (zunk w d) (zGm (w, n, mm, cd, rd) d (zbut t))).natAbs false))), (4, .long (Int64.ofInt (zTold (zSq (zGm (w, n, mm, cd, rd) d (zbut t)) (zunk w d)) (zdet (zunk w d) (zGm (w, n, mm, cd, rd) d (zbut t))).natAbs true))), (3, .int (nI t)), (8, .int (nI t)), (0, .ref (E.2.2.2 32)), (1, .ref (E.2.2.2 p)), (2, .int (zdr d))]) dX6_doubtfulOf_81 (by decide) rfl ?_
            refine z_iinc hx (w := nI (t + 1)) (lv2 := [(8, .int (nI (t + 1))), (6, .long (Int64.ofInt (zTold (zSq (zGm (w, n, mm, cd, rd) d (zbut t)) (zunk w d)) (zdet (zunk w d) (zGm (w, n, mm, cd, rd) d (zbut t))).natAbs false))), (4, .long (Int64.ofInt (zTold (zSq (zGm (w, n, mm, cd, rd) d (zbut t)) (zunk w d)) (zdet (zunk w d) (zGm (w, n, mm, cd, rd) d (zbut t))).natAbs true))), (3, .int (nI t)), (0, .ref (E.2.2.2 32)), (1, .ref (E.2.2.2 p)), (2, .int (zdr d))]) 3 dX6_doubtfulOf_83 rfl (z_inc _) (by decide) rfl ?_
            refine z_goto (tgt := 12) hx dX6_doubtfulOf_86 (by decide) ?_
            exact z_to (ih12 (t + 1) M41 (by omega) (zfm_tr hNf (zfm_tr hfl q41.2.2.2)) (by omega)) [0, 1, 2, 3, 4, 5, 6] (by rw [hnew]; rfl) rfl
          · skip
            refine z_aload_n hx 4 dX6_doubtfulOf_50 rfl rfl ?_
            refine zg_X6_22 hx zw_598 dX6_doubtfulOf_51 ?_
            refine z_eql (b := Int64.ofInt (zTold (zSq (zGm (w, n, mm, cd, rd) d (zbut t)) (zunk w d)) (zdet (zunk w d) (zGm (w, n, mm, cd, rd) d (zbut t))).natAbs true)) q41.1 ?_
            refine z_lload hx 1 dX6_doubtfulOf_54 rfl ?_
            refine z_lmul hx dX6_doubtfulOf_56 ?_
            refine z_lload hx 2 dX6_doubtfulOf_57 rfl ?_
            refine z_aload_n hx 4 dX6_doubtfulOf_59 rfl rfl ?_
            refine zg_X6_23 hx zw_599 dX6_doubtfulOf_60 ?_
            refine z_eql (b := Int64.ofInt (zTold (zSq (zGm (w, n, mm, cd, rd) d (zbut t)) (zunk w d)) (zdet (zunk w d) (zGm (w, n, mm, cd, rd) d (zbut t))).natAbs false)) q41.2.1 ?_
            refine z_lmul hx dX6_doubtfulOf_63 ?_
            refine z_lcmp hx dX6_doubtfulOf_64 ?_
            refine z_if_ge (tgt := 83) hx dX6_doubtfulOf_65 (by decide) (fun h65 => ?_) (fun h65 => ?_)
            · skip
              obtain ⟨o1, o2, o3, ho⟩ : ∃ i a b, (zbest (zqd (w, n, mm, cd, rd) d) t) = some (i, a, b) := by
                cases e : (zbest (zqd (w, n, mm, cd, rd) d) t) with
                | none => exact absurd (by rw [e]; rfl) h47
                | some o => exact ⟨o.1, o.2.1, o.2.2, rfl⟩
              have hcm : ¬ _ := fun z => zcmpge h65 ((zlt_red hg.1 hg.2.1 hg.2.2 hgo).mpr z)
              have hnew : zbest (zqd (w, n, mm, cd, rd) d) (t + 1) = zbest (zqd (w, n, mm, cd, rd) d) t := by
                rw [ho] at hcm
                rw [zbest_nay hq ho hcm, ho]
              refine z_iinc hx (w := nI (t + 1)) (lv2 := [(8, .int (nI (t + 1))), (6, .long (Int64.ofInt (zrl (zbest (zqd (w, n, mm, cd, rd) d) t)))), (4, .long (Int64.ofInt (zru (zbest (zqd (w, n, mm, cd, rd) d) t)))), (3, .int (zbi (zbest (zqd (w, n, mm, cd, rd) d) t))), (0, .ref (E.2.2.2 32)), (1, .ref (E.2.2.2 p)), (2, .int (zdr d))]) 0 dX6_doubtfulOf_83 rfl (z_inc _) (by decide) rfl ?_
              refine z_goto (tgt := 12) hx dX6_doubtfulOf_86 (by decide) ?_
              exact z_to (ih12 (t + 1) M41 (by omega) (zfm_tr hNf (zfm_tr hfl q41.2.2.2)) (by omega)) [0, 1, 2, 3, 4, 5, 6] (by rw [hnew]; rfl) rfl
            · skip
              obtain ⟨o1, o2, o3, ho⟩ : ∃ i a b, (zbest (zqd (w, n, mm, cd, rd) d) t) = some (i, a, b) := by
                cases e : (zbest (zqd (w, n, mm, cd, rd) d) t) with
                | none => exact absurd (by rw [e]; rfl) h47
                | some o => exact ⟨o.1, o.2.1, o.2.2, rfl⟩
              have hcm := (zlt_red hg.1 hg.2.1 hg.2.2 hgo).mp (zcmpnge h65)
              rw [ho] at hcm
              have hnew := zbest_yes hq ho hcm
              refine z_iload hx 0 dX6_doubtfulOf_68 rfl ?_
              refine z_istore_n hx (lv2 := [(3, .int (nI t)), (8, .int (nI t)), (6, .long (Int64.ofInt (zrl (zbest (zqd (w, n, mm, cd, rd) d) t)))), (4, .long (Int64.ofInt (zru (zbest (zqd (w, n, mm, cd, rd) d) t)))), (0, .ref (E.2.2.2 32)), (1, .ref (E.2.2.2 p)), (2, .int (zdr d))]) dX6_doubtfulOf_70 rfl (by decide) rfl ?_
              refine z_aload_n hx 4 dX6_doubtfulOf_71 rfl rfl ?_
              refine zg_X6_22 hx zw_598 dX6_doubtfulOf_72 ?_
              refine z_eql (b := Int64.ofInt (zTold (zSq (zGm (w, n, mm, cd, rd) d (zbut t)) (zunk w d)) (zdet (zunk w d) (zGm (w, n, mm, cd, rd) d (zbut t))).natAbs true)) q41.1 ?_
              refine z_lstore hx (lv2 := [(4, .long (Int64.ofInt (zTold (zSq (zGm (w, n, mm, cd, rd) d (zbut t)) (zunk w d)) (zdet (zunk w d) (zGm (w, n, mm, cd, rd) d (zbut t))).natAbs true))), (3, .int (nI t)), (8, .int (nI t)), (6, .long (Int64.ofInt (zrl (zbest (zqd (w, n, mm, cd, rd) d) t)))), (0, .ref (E.2.2.2 32)), (1, .ref (E.2.2.2 p)), (2, .int (zdr d))]) dX6_doubtfulOf_75 (by decide) rfl ?_
              refine z_aload_n hx 4 dX6_doubtfulOf_77 rfl rfl ?_
              refine zg_X6_23 hx zw_599 dX6_doubtfulOf_78 ?_
              refine z_eql (b := Int64.ofInt (zTold (zSq (zGm (w, n, mm, cd, rd) d (zbut t)) (zunk w d)) (zdet (zunk w d) (zGm (w, n, mm, cd, rd) d (zbut t))).natAbs false)) q41.2.1 ?_
              refine z_lstore hx (lv2 := [(6, .long (Int64.ofInt (zTold (zSq (zGm (w, n, mm, cd, rd) d (zbut t)) (zunk w d)) (zdet (zunk w d) (zGm (w, n, mm, cd, rd) d (zbut t))).natAbs false))), (4, .long (Int64.ofInt (zTold (zSq (zGm (w, n, mm, cd, rd) d (zbut t)) (zunk w d)) (zdet (zunk w d) (zGm (w, n, mm, cd, rd) d (zbut t))).natAbs true))), (3, .int (nI t)), (8, .int (nI t)), (0, .ref (E.2.2.2 32)), (1, .ref (E.2.2.2 p)), (2, .int (zdr d))]) dX6_doubtfulOf_81 (by decide) rfl ?_
              refine z_iinc hx (w := nI (t + 1)) (lv2 := [(8, .int (nI (t + 1))), (6, .long (Int64.ofInt (zTold (zSq (zGm (w, n, mm, cd, rd) d (zbut t)) (zunk w d)) (zdet (zunk w d) (zGm (w, n, mm, cd, rd) d (zbut t))).natAbs false))), (4, .long (Int64.ofInt (zTold (zSq (zGm (w, n, mm, cd, rd) d (zbut t)) (zunk w d)) (zdet (zunk w d) (zGm (w, n, mm, cd, rd) d (zbut t))).natAbs true))), (3, .int (nI t)), (0, .ref (E.2.2.2 32)), (1, .ref (E.2.2.2 p)), (2, .int (zdr d))]) 3 dX6_doubtfulOf_83 rfl (z_inc _) (by decide) rfl ?_
              refine z_goto (tgt := 12) hx dX6_doubtfulOf_86 (by decide) ?_
              exact z_to (ih12 (t + 1) M41 (by omega) (zfm_tr hNf (zfm_tr hfl q41.2.2.2)) (by omega)) [0, 1, 2, 3, 4, 5, 6] (by rw [hnew]; rfl) rfl
        · skip
          show zJ E x 37 _ [.int (nI 0)] _
          have hqn : zqd (w, n, mm, cd, rd) d t = none := if_neg (by show ¬ 0 < (zdet (zunk w d) (zGm (w, n, mm, cd, rd) d (zbut t))); omega)
          refine z_if_eq_n (tgt := 83) hx (by decide) dX6_doubtfulOf_37 (by decide) (fun _ => ?_) (fun h => absurd h (by decide))
          refine z_iinc hx (w := nI (t + 1)) (lv2 := [(8, .int (nI (t + 1))), (6, .long (Int64.ofInt (zrl (zbest (zqd (w, n, mm, cd, rd) d) t)))), (4, .long (Int64.ofInt (zru (zbest (zqd (w, n, mm, cd, rd) d) t)))), (3, .int (zbi (zbest (zqd (w, n, mm, cd, rd) d) t))), (0, .ref (E.2.2.2 32)), (1, .ref (E.2.2.2 p)), (2, .int (zdr d))]) 0 dX6_doubtfulOf_83 rfl (z_inc _) (by decide) rfl ?_
          refine z_goto (tgt := 12) hx dX6_doubtfulOf_86 (by decide) ?_
          exact z_to (ih12 (t + 1) M34 (by omega) (zfm_tr hNf hfl) (by omega)) [0, 1, 2, 3, 4, 5, 6] (by rw [zbest_no hqn]; rfl) rfl
  exact z_to (loop12 _ 0 M (Nat.zero_le _) (zfm_rf _ _ _) (Nat.lt_succ_self _)) [0, 1, 2, 3, 4, 5, 6] (by rw [show (0 : Int64) = Int64.ofInt (zru none) by decide +kernel, show (1 : Int64) = Int64.ofInt (zrl none) by decide +kernel]; rfl) rfl
set_option maxHeartbeats 4000000 in
set_option maxRecDepth 100000 in
theorem k_X6_doubtful {E : zE} (hI : zI E) (M : zM) {σ : zSt} (hσ : zMs M σ) (hk : zSk σ) (d : Bool) : zK E yX6_doubtful (.code yX6_doubtful cX6_doubtful 2 (some .int)) (zrm 6 149) [.ref (E.2.2.2 32), .int (zdr d)] M (zpi (fun v M2 => v = zop_doubtful σ.2.2.1 d ∧ zMs M2 σ ∧ zfN M M2)) := by
  refine zK_of hI (by decide) (Nat.le_of_ble_eq_true rfl) (fun x hx ri rz rl rv => ?_)
  show zJ E x 0 [(0, .ref (E.2.2.2 32)), (1, .int (zdr d))] [] M
  obtain ⟨tx, len, ⟨w, n, mm, cd, rd⟩, as, s, sl, sd⟩ := σ
  have hσ2 := hσ
  obtain ⟨⟨hL, hT⟩, hW, hP, ⟨hs, hA⟩, hS, hsd⟩ := hσ
  have hv := hk.1
  have hw4 : 1 ≤ w ∧ w ≤ 4 := hv.1
  have hmm : mm ≤ 99 := hv.2.1
  have hn8 : n ≤ 8 := hv.2.2.1
  have hlen : len ≤ 90 := hk.2.1.1
  have hs14 : s ≤ 14 := hk.2.2.1
  have hL : M.1 32 2 = nI len := hL
  have hW : M.1 32 4 = nI w := hW
  have hs : M.1 32 11 = nI s := hs
  have hsd : M.2 32 14 = sd := hsd
  have hP0 : M.1 35 0 = nI mm := hP.1
  have hP1 : M.1 35 1 = nI n := hP.2.1
  have hP2 : ∀ t, t < n → M.1 35 (2 + t) = nI (cd t) ∧ M.1 35 (10 + t) = Int32.ofInt (rd t) := hP.2.2
  have hT : ∀ k, k < 90 → M.1 33 k = nI (tx k) := hT
  have hR0 : zPr (zputI M 32 0 (nI 0)) 35 (w, n, mm, cd, rd) := zPr_t hσ2 hk
  refine z_aload_n hx 0 dX6_doubtful_0 rfl rfl ?_
  refine z_iconst hx (v := nI 0) dX6_doubtful_1 (by decide +kernel) ?_
  refine zp_X6_0 hx zw_576 dX6_doubtful_2 ?_
  refine z_aload_n hx 0 dX6_doubtful_5 rfl rfl ?_
  refine z_aload_n hx 0 dX6_doubtful_6 rfl rfl ?_
  refine zg_X6_7 hx zw_583 dX6_doubtful_7 ?_
  refine z_iload_n hx 1 dX6_doubtful_10 rfl rfl ?_
  refine z_callV hx (As := [.ref (E.2.2.2 35), .int (zdr d)]) (st := []) (k_X6_doubtfulOf hI (zputI M 32 0 (nI 0)) zPc_35 hR0 d) zw_853 zy_X6_doubtfulOf ⟨rfl, rfl⟩ (by decide) (zOB_X6 E) rfl rfl rfl rfl (Nat.le_of_ble_eq_true rfl) dX6_doubtful_11 ?_
  rintro _ M11 ⟨v11, rfl, q11⟩
  show zJ E x 14 _ [.int v11] _
  exact ri _ _ _ _ rfl ⟨_, rfl, ⟨q11.1, zMs_L hσ2 q11.2⟩⟩ dX6_doubtful_14
