theorem zful_1 : ∀ u, u < 6 → zpk (2 ^ u - 1) u = u := by decide +kernel
theorem zful_2 : ∀ u, u < 6 → ∀ m, m < u → zch (2 ^ u - 1) m = m := by decide +kernel
theorem zful_3 : ∀ u, u < 6 → ∀ i, i < u → zpk (2 ^ u - 1 - 2 ^ i) u = u - 1 := by decide +kernel
theorem zful_4 : ∀ u, u < 6 → ∀ i, i < u → ∀ m, m < u - 1 → zch (2 ^ u - 1 - 2 ^ i) m = zskp i m := by decide +kernel
theorem zmn_f {G : Nat → Nat → Int} {u : Nat} (hu : u ≤ 5) : zdet (zpk (2 ^ u - 1) u) (zmn G u (2 ^ u - 1) (-9)) = zdet u G := by
  rw [zful_1 u (by omega)]
  exact zdet_cg (fun p q hp hq => by
    unfold zmn
    rw [zful_2 u (by omega) p hp, zful_2 u (by omega) q hq, if_neg (zn9 (by omega))])
theorem zmn_i {G : Nat → Nat → Int} {u i : Nat} (hu : u ≤ 5) (hi : i < u) : zdet (zpk (2 ^ u - 1) u) (zmn G u (2 ^ u - 1) (nI i)) = zVal G u i := by
  rw [zful_1 u (by omega)]
  exact zdet_cg (fun p q hp hq => by
    unfold zmn
    rw [zful_2 u (by omega) p hp, zful_2 u (by omega) q hq]
    by_cases e : q = i
    · rw [if_pos e, if_pos (by rw [e])]
    · rw [if_neg e, if_neg (fun z => e ((nI_eq (by omega) (by omega)).mp z))])
theorem zmn_s {G : Nat → Nat → Int} {u i : Nat} (hu : u ≤ 5) (hi : i < u) : zdet (zpk (2 ^ u - 1 - 2 ^ i) u) (zmn G u (2 ^ u - 1 - 2 ^ i) (-9)) = zMin G u i := by
  rw [zful_3 u (by omega) i hi]
  exact zdet_cg (fun p q hp hq => by
    unfold zmn
    have := zskp_lt (i := i) hq
    rw [zful_4 u (by omega) i hi p hp, zful_4 u (by omega) i hi q hq, if_neg (zn9 (by omega))])
theorem z2p {u : Nat} : 1 ≤ 2 ^ u := Nat.one_le_two_pow
theorem kc_mf {E : zE} (hI : zI E) (M : zM) {r : zRo} (hv : zVr r) {d : Bool} {S : Nat → Bool} (hG : zGt M (zunk r.1 d) (zGm r d S)) : zK E yX6_minor (.code yX6_minor cX6_minor 6 (some .long)) (zrm 1 30) [.ref (E.2.2.2 32), .int (nI (2 ^ zunk r.1 d - 1)), .int (-9)] M (zpl (fun v M2 => v = Int64.ofInt (zdet (zunk r.1 d) (zGm r d S)) ∧ zfr (fun c => c = 43 ∨ c = 44) M M2)) := by
  have hu := zunk_le hv.1.2 d
  have h1 : 1 ≤ 2 ^ zunk r.1 d := z2p
  have h := k_X6_minor hI M (s := 2 ^ zunk r.1 d - 1) hu hG (by omega) (-9) (zmn_b hv d S (by omega) _)
  rw [zmn_f hu] at h
  exact h
theorem kc_mi {E : zE} (hI : zI E) (M : zM) {r : zRo} (hv : zVr r) {d : Bool} {S : Nat → Bool} (hG : zGt M (zunk r.1 d) (zGm r d S)) {i : Nat} (hi : i < zunk r.1 d) : zK E yX6_minor (.code yX6_minor cX6_minor 6 (some .long)) (zrm 1 30) [.ref (E.2.2.2 32), .int (nI (2 ^ zunk r.1 d - 1)), .int (nI i)] M (zpl (fun v M2 => v = Int64.ofInt (zVal (zGm r d S) (zunk r.1 d) i) ∧ zfr (fun c => c = 43 ∨ c = 44) M M2)) := by
  have hu := zunk_le hv.1.2 d
  have h1 : 1 ≤ 2 ^ zunk r.1 d := z2p
  have h := k_X6_minor hI M (s := 2 ^ zunk r.1 d - 1) hu hG (by omega) (nI i) (zmn_b hv d S (by omega) _)
  rw [zmn_i hu hi] at h
  exact h
theorem kc_ms {E : zE} (hI : zI E) (M : zM) {r : zRo} (hv : zVr r) {d : Bool} {S : Nat → Bool} (hG : zGt M (zunk r.1 d) (zGm r d S)) {i : Nat} (hi : i < zunk r.1 d) : zK E yX6_minor (.code yX6_minor cX6_minor 6 (some .long)) (zrm 1 30) [.ref (E.2.2.2 32), .int (nI (2 ^ zunk r.1 d - 1 - 2 ^ i)), .int (-9)] M (zpl (fun v M2 => v = Int64.ofInt (zMin (zGm r d S) (zunk r.1 d) i) ∧ zfr (fun c => c = 43 ∨ c = 44) M M2)) := by
  have hu := zunk_le hv.1.2 d
  have h1 : 1 ≤ 2 ^ zunk r.1 d := z2p
  have h2 : 2 ^ zunk r.1 d - 1 - 2 ^ i < 2 ^ zunk r.1 d := Nat.lt_of_le_of_lt (Nat.sub_le _ _) (by omega)
  have h := k_X6_minor hI M (s := 2 ^ zunk r.1 d - 1 - 2 ^ i) hu hG h2 (-9) (zmn_b hv d S h2 _)
  rw [zmn_s hu hi] at h
  exact h
theorem zshl5 : ∀ u, u < 6 → nI 1 <<< (nI u &&& 31) = nI (2 ^ u) := by decide +kernel
theorem zmsk : ∀ u, u < 6 → ∀ i, i < u → nI (2 ^ u - 1) &&& ((nI 1 <<< (nI i &&& 31)) ^^^ (-1)) = nI (2 ^ u - 1 - 2 ^ i) := by decide +kernel
theorem zD_in {r : zRo} (hv : zVr r) (d : Bool) (S : Nat → Bool) : 0 ≤ zdet (zunk r.1 d) (zGm r d S) ∧ zdet (zunk r.1 d) (zGm r d S) ≤ 600000 := by
  obtain ⟨T, D, _, h2, h3, h4, _⟩ := zThy r d S hv
  rw [h2] at h3 h4
  exact ⟨h3, h4⟩
theorem zS_in {r : zRo} (hv : zVr r) (d : Bool) (S : Nat → Bool) (h : 0 < zdet (zunk r.1 d) (zGm r d S)) : zab (zSq (zGm r d S) (zunk r.1 d)) 6000000000000 := by
  obtain ⟨T, D, _, h2, h3, h4, h5⟩ := zThy r d S hv
  have h6 := h5 (by rw [h2]; exact h)
  rw [← h6.2.1]
  exact h6.1
theorem zV_in {r : zRo} (hv : zVr r) (d : Bool) (S : Nat → Bool) {i : Nat} (hi : i < zunk r.1 d) : zab (zVal (zGm r d S) (zunk r.1 d) i) 1000000000000 := zGm_vl hv d S (Nat.le_refl _) hi (Nat.le_refl _)
set_option maxHeartbeats 4000000 in
set_option maxRecDepth 100000 in
theorem k_X6_columns {E : zE} (hI : zI E) (M : zM) {u : Nat} (hu : u ≤ 5) (h : M.1 32 15 = nI u) : zK E yX6_columns (.code yX6_columns cX6_columns 1 (some .int)) (zrm 0 0) [.ref (E.2.2.2 32)] M (zpi (fun v M2 => v = nI (2 ^ u - 1) ∧ M2 = M)) := by
  refine zK_of hI (by decide) (Nat.le_of_ble_eq_true rfl) (fun x hx ri rz rl rv => ?_)
  show zJ E x 0 [(0, .ref (E.2.2.2 32))] [] M
  have h1 : 1 ≤ 2 ^ u := z2p
  have h2 := zp32 hu
  refine z_iconst hx (v := nI 1) dX6_columns_0 (by decide +kernel) ?_
  refine z_aload_n hx 0 dX6_columns_1 rfl rfl ?_
  refine zg_X6_15 hx zw_591 dX6_columns_2 ?_
  refine z_eqi (b := nI u) h ?_
  refine z_ishl hx dX6_columns_5 ?_
  refine z_eqi (b := nI (2 ^ u)) (zshl5 u (by omega)) ?_
  refine z_iconst hx (v := nI 1) dX6_columns_6 (by decide +kernel) ?_
  refine z_isub_n hx (by omega) dX6_columns_7 ?_
  exact ri _ _ _ _ rfl ⟨_, rfl, ⟨rfl, rfl⟩⟩ dX6_columns_8
theorem zcmpp {z : Int} (h : 0 ≤ lg_cmp (Int64.ofInt z) 0) : ¬ Int64.ofInt z < Int64.ofInt 0 := fun q => by
  have := (lg_cmp_ge _ _).mp h
  exact absurd q (Int64.not_lt.mpr this)
theorem zcmpn {z : Int} (h : ¬ 0 ≤ lg_cmp (Int64.ofInt z) 0) : Int64.ofInt z < Int64.ofInt 0 := Int64.not_le.mp (fun q => h ((lg_cmp_ge _ _).mpr q))
theorem zabp {z : Int} (hz : zrg z) (h : ¬ Int64.ofInt z < Int64.ofInt 0) : Int64.ofInt z = lN z.natAbs := by
  have h2 : ¬ z < 0 := fun q => h ((zlt64 hz ⟨by decide, by decide⟩).mpr q)
  exact zlN_pos (by omega)
theorem zabn {z : Int} (hz : zrg z) (h : Int64.ofInt z < Int64.ofInt 0) : -Int64.ofInt z = lN z.natAbs := by
  have := (zlt64 hz ⟨by decide, by decide⟩).mp h
  rw [zI64_neg, zlN_pos (by omega)]
  congr 1
  omega
set_option maxHeartbeats 4000000 in
set_option maxRecDepth 100000 in
theorem k_X6_divisor {E : zE} (hI : zI E) (M : zM) (a b : Int) (ha : zrg a) (hb : zrg b) : zK E yX6_divisor (.code yX6_divisor cX6_divisor 10 (some .long)) (zrm 0 0) [.long (Int64.ofInt a), .long (Int64.ofInt b)] M (zpl (fun v M2 => v = lN (Nat.gcd a.natAbs b.natAbs) ∧ M2 = M)) := by
  refine zK_of hI (by decide) (Nat.le_of_ble_eq_true rfl) (fun x hx ri rz rl rv => ?_)
  show zJ E x 0 [(0, .long (Int64.ofInt a)), (2, .long (Int64.ofInt b))] [] M
  refine z_lload_n hx 0 dX6_divisor_0 rfl rfl ?_
  refine z_lconst hx (v := 0) dX6_divisor_1 rfl ?_
  refine z_lcmp hx dX6_divisor_2 ?_
  refine z_if_ge (tgt := 11) hx dX6_divisor_3 (by decide) (fun h3 => ?_) (fun h3 => ?_)
  · skip
    refine z_lload_n hx 0 dX6_divisor_11 rfl rfl ?_
    refine z_lstore hx (lv2 := [(4, .long (Int64.ofInt a)), (0, .long (Int64.ofInt a)), (2, .long (Int64.ofInt b))]) dX6_divisor_12 (by decide) rfl ?_
    refine z_lload_n hx 2 dX6_divisor_14 rfl rfl ?_
    refine z_lconst hx (v := 0) dX6_divisor_15 rfl ?_
    refine z_lcmp hx dX6_divisor_16 ?_
    refine z_if_ge (tgt := 25) hx dX6_divisor_17 (by decide) (fun h17 => ?_) (fun h17 => ?_)
    · skip
      refine z_lload_n hx 2 dX6_divisor_25 rfl rfl ?_
      refine z_lstore hx (lv2 := [(6, .long (Int64.ofInt b)), (4, .long (Int64.ofInt a)), (0, .long (Int64.ofInt a)), (2, .long (Int64.ofInt b))]) dX6_divisor_26 (by decide) rfl ?_
      have loop28 : ∀ (fuel28 : Nat) (l g : Nat) (_ : g < 4611686018427387904) (_ : l < 4611686018427387904) (_ : Nat.gcd g l = Nat.gcd a.natAbs b.natAbs), l < fuel28 → zJ E x 28 [(6, .long (lN l)), (4, .long (lN g))] [] M := by
        intro fuel28
        induction fuel28 with
        | zero =>
          intros; omega
        | succ fuel28 ih28 =>
          intro l g hg hl hgc hfuel28
          refine z_lload hx 0 dX6_divisor_28 rfl ?_
          refine z_lconst hx (v := 0) dX6_divisor_30 rfl ?_
          refine z_lcmp hx dX6_divisor_31 ?_
          refine z_if_eq (tgt := 53) hx dX6_divisor_32 (by decide) (fun h32 => ?_) (fun h32 => ?_)
          · skip
            have hl00 : l = 0 := (pk_lEQ (by omega) (by decide)).mp ((zcmp0 h32).trans (by decide +kernel))
            refine z_lload hx 1 dX6_divisor_53 rfl ?_
            exact rl _ _ _ _ rfl ⟨_, rfl, ⟨by rw [← hgc, hl00, Nat.gcd_zero_right], rfl⟩⟩ dX6_divisor_55
          · skip
            have hl0 : 0 < l := Nat.pos_of_ne_zero (fun z => h32 (by rw [z]; decide +kernel))
            have hml := Nat.mod_lt g hl0
            refine z_lload hx 1 dX6_divisor_35 rfl ?_
            refine z_lload hx 0 dX6_divisor_37 rfl ?_
            refine z_lrem hx dX6_divisor_39 (fun z => h32 ((lg_cmp_eq _ _).mpr z)) ?_
            refine z_lstore hx (lv2 := [(8, .long ((lN g) - (lN g) / (lN l) * (lN l))), (6, .long (lN l)), (4, .long (lN g))]) dX6_divisor_40 (by decide) rfl ?_
            refine z_lload hx 1 dX6_divisor_42 rfl ?_
            refine z_lstore hx (lv2 := [(4, .long (lN l)), (8, .long ((lN g) - (lN g) / (lN l) * (lN l))), (6, .long (lN l))]) dX6_divisor_44 (by decide) rfl ?_
            refine z_lload hx 1 dX6_divisor_46 rfl ?_
            refine z_lstore hx (lv2 := [(6, .long ((lN g) - (lN g) / (lN l) * (lN l))), (4, .long (lN l)), (8, .long ((lN g) - (lN g) / (lN l) * (lN l)))]) dX6_divisor_48 (by decide) rfl ?_
            refine z_goto (tgt := 28) hx dX6_divisor_50 (by decide) ?_
            exact z_to (ih28 (g % l) l hl (by have := Nat.mod_lt g hl0; omega) (by rw [← hgc, Nat.gcd_comm g l, Nat.gcd_rec l g, Nat.gcd_comm]) (by omega)) [0, 1] (by rw [pk_lRem (by omega) hl0 (by omega)]; rfl) rfl
      exact z_to (loop28 _ b.natAbs a.natAbs (by have := ha.1; have := ha.2; omega) (by have := hb.1; have := hb.2; omega) rfl (Nat.lt_succ_self _)) [0, 1] (by rw [zabp hb (zcmpp h17), zabp ha (zcmpp h3)]; rfl) rfl
    · skip
      refine z_lload_n hx 2 dX6_divisor_20 rfl rfl ?_
      refine z_lneg hx dX6_divisor_21 ?_
      refine z_goto (tgt := 26) hx dX6_divisor_22 (by decide) ?_
      refine z_lstore hx (lv2 := [(6, .long (-(Int64.ofInt b))), (4, .long (Int64.ofInt a)), (0, .long (Int64.ofInt a)), (2, .long (Int64.ofInt b))]) dX6_divisor_26 (by decide) rfl ?_
      have loop28 : ∀ (fuel28 : Nat) (l g : Nat) (_ : g < 4611686018427387904) (_ : l < 4611686018427387904) (_ : Nat.gcd g l = Nat.gcd a.natAbs b.natAbs), l < fuel28 → zJ E x 28 [(6, .long (lN l)), (4, .long (lN g))] [] M := by
        intro fuel28
        induction fuel28 with
        | zero =>
          intros; omega
        | succ fuel28 ih28 =>
          intro l g hg hl hgc hfuel28
          refine z_lload hx 0 dX6_divisor_28 rfl ?_
          refine z_lconst hx (v := 0) dX6_divisor_30 rfl ?_
          refine z_lcmp hx dX6_divisor_31 ?_
          refine z_if_eq (tgt := 53) hx dX6_divisor_32 (by decide) (fun h32 => ?_) (fun h32 => ?_)
          · skip
            have hl00 : l = 0 := (pk_lEQ (by omega) (by decide)).mp ((zcmp0 h32).trans (by decide +kernel))
            refine z_lload hx 1 dX6_divisor_53 rfl ?_
            exact rl _ _ _ _ rfl ⟨_, rfl, ⟨by rw [← hgc, hl00, Nat.gcd_zero_right], rfl⟩⟩ dX6_divisor_55
          · skip
            have hl0 : 0 < l := Nat.pos_of_ne_zero (fun z => h32 (by rw [z]; decide +kernel))
            have hml := Nat.mod_lt g hl0
            refine z_lload hx 1 dX6_divisor_35 rfl ?_
            refine z_lload hx 0 dX6_divisor_37 rfl ?_
            refine z_lrem hx dX6_divisor_39 (fun z => h32 ((lg_cmp_eq _ _).mpr z)) ?_
            refine z_lstore hx (lv2 := [(8, .long ((lN g) - (lN g) / (lN l) * (lN l))), (6, .long (lN l)), (4, .long (lN g))]) dX6_divisor_40 (by decide) rfl ?_
            refine z_lload hx 1 dX6_divisor_42 rfl ?_
            refine z_lstore hx (lv2 := [(4, .long (lN l)), (8, .long ((lN g) - (lN g) / (lN l) * (lN l))), (6, .long (lN l))]) dX6_divisor_44 (by decide) rfl ?_
            refine z_lload hx 1 dX6_divisor_46 rfl ?_
            refine z_lstore hx (lv2 := [(6, .long ((lN g) - (lN g) / (lN l) * (lN l))), (4, .long (lN l)), (8, .long ((lN g) - (lN g) / (lN l) * (lN l)))]) dX6_divisor_48 (by decide) rfl ?_
            refine z_goto (tgt := 28) hx dX6_divisor_50 (by decide) ?_
            exact z_to (ih28 (g % l) l hl (by have := Nat.mod_lt g hl0; omega) (by rw [← hgc, Nat.gcd_comm g l, Nat.gcd_rec l g, Nat.gcd_comm]) (by omega)) [0, 1] (by rw [pk_lRem (by omega) hl0 (by omega)]; rfl) rfl
      exact z_to (loop28 _ b.natAbs a.natAbs (by have := ha.1; have := ha.2; omega) (by have := hb.1; have := hb.2; omega) rfl (Nat.lt_succ_self _)) [0, 1] (by rw [zabn hb (zcmpn h17), zabp ha (zcmpp h3)]; rfl) rfl
  · skip
    refine z_lload_n hx 0 dX6_divisor_6 rfl rfl ?_
    refine z_lneg hx dX6_divisor_7 ?_
    refine z_goto (tgt := 12) hx dX6_divisor_8 (by decide) ?_
    refine z_lstore hx (lv2 := [(4, .long (-(Int64.ofInt a))), (0, .long (Int64.ofInt a)), (2, .long (Int64.ofInt b))]) dX6_divisor_12 (by decide) rfl ?_
    refine z_lload_n hx 2 dX6_divisor_14 rfl rfl ?_
    refine z_lconst hx (v := 0) dX6_divisor_15 rfl ?_
    refine z_lcmp hx dX6_divisor_16 ?_
    refine z_if_ge (tgt := 25) hx dX6_divisor_17 (by decide) (fun h17 => ?_) (fun h17 => ?_)
    · skip
      refine z_lload_n hx 2 dX6_divisor_25 rfl rfl ?_
      refine z_lstore hx (lv2 := [(6, .long (Int64.ofInt b)), (4, .long (-(Int64.ofInt a))), (0, .long (Int64.ofInt a)), (2, .long (Int64.ofInt b))]) dX6_divisor_26 (by decide) rfl ?_
      have loop28 : ∀ (fuel28 : Nat) (l g : Nat) (_ : g < 4611686018427387904) (_ : l < 4611686018427387904) (_ : Nat.gcd g l = Nat.gcd a.natAbs b.natAbs), l < fuel28 → zJ E x 28 [(6, .long (lN l)), (4, .long (lN g))] [] M := by
        intro fuel28
        induction fuel28 with
        | zero =>
          intros; omega
        | succ fuel28 ih28 =>
          intro l g hg hl hgc hfuel28
          refine z_lload hx 0 dX6_divisor_28 rfl ?_
          refine z_lconst hx (v := 0) dX6_divisor_30 rfl ?_
          refine z_lcmp hx dX6_divisor_31 ?_
          refine z_if_eq (tgt := 53) hx dX6_divisor_32 (by decide) (fun h32 => ?_) (fun h32 => ?_)
          · skip
            have hl00 : l = 0 := (pk_lEQ (by omega) (by decide)).mp ((zcmp0 h32).trans (by decide +kernel))
            refine z_lload hx 1 dX6_divisor_53 rfl ?_
            exact rl _ _ _ _ rfl ⟨_, rfl, ⟨by rw [← hgc, hl00, Nat.gcd_zero_right], rfl⟩⟩ dX6_divisor_55
          · skip
            have hl0 : 0 < l := Nat.pos_of_ne_zero (fun z => h32 (by rw [z]; decide +kernel))
            have hml := Nat.mod_lt g hl0
            refine z_lload hx 1 dX6_divisor_35 rfl ?_
            refine z_lload hx 0 dX6_divisor_37 rfl ?_
            refine z_lrem hx dX6_divisor_39 (fun z => h32 ((lg_cmp_eq _ _).mpr z)) ?_
            refine z_lstore hx (lv2 := [(8, .long ((lN g) - (lN g) / (lN l) * (lN l))), (6, .long (lN l)), (4, .long (lN g))]) dX6_divisor_40 (by decide) rfl ?_
            refine z_lload hx 1 dX6_divisor_42 rfl ?_
            refine z_lstore hx (lv2 := [(4, .long (lN l)), (8, .long ((lN g) - (lN g) / (lN l) * (lN l))), (6, .long (lN l))]) dX6_divisor_44 (by decide) rfl ?_
            refine z_lload hx 1 dX6_divisor_46 rfl ?_
            refine z_lstore hx (lv2 := [(6, .long ((lN g) - (lN g) / (lN l) * (lN l))), (4, .long (lN l)), (8, .long ((lN g) - (lN g) / (lN l) * (lN l)))]) dX6_divisor_48 (by decide) rfl ?_
            refine z_goto (tgt := 28) hx dX6_divisor_50 (by decide) ?_
            exact z_to (ih28 (g % l) l hl (by have := Nat.mod_lt g hl0; omega) (by rw [← hgc, Nat.gcd_comm g l, Nat.gcd_rec l g, Nat.gcd_comm]) (by omega)) [0, 1] (by rw [pk_lRem (by omega) hl0 (by omega)]; rfl) rfl
      exact z_to (loop28 _ b.natAbs a.natAbs (by have := ha.1; have := ha.2; omega) (by have := hb.1; have := hb.2; omega) rfl (Nat.lt_succ_self _)) [0, 1] (by rw [zabp hb (zcmpp h17), zabn ha (zcmpn h3)]; rfl) rfl
    · skip
      refine z_lload_n hx 2 dX6_divisor_20 rfl rfl ?_
      refine z_lneg hx dX6_divisor_21 ?_
      refine z_goto (tgt := 26) hx dX6_divisor_22 (by decide) ?_
      refine z_lstore hx (lv2 := [(6, .long (-(Int64.ofInt b))), (4, .long (-(Int64.ofInt a))), (0, .long (Int64.ofInt a)), (2, .long (Int64.ofInt b))]) dX6_divisor_26 (by decide) rfl ?_
      have loop28 : ∀ (fuel28 : Nat) (l g : Nat) (_ : g < 4611686018427387904) (_ : l < 4611686018427387904) (_ : Nat.gcd g l = Nat.gcd a.natAbs b.natAbs), l < fuel28 → zJ E x 28 [(6, .long (lN l)), (4, .long (lN g))] [] M := by
        intro fuel28
        induction fuel28 with
        | zero =>
          intros; omega
        | succ fuel28 ih28 =>
          intro l g hg hl hgc hfuel28
          refine z_lload hx 0 dX6_divisor_28 rfl ?_
          refine z_lconst hx (v := 0) dX6_divisor_30 rfl ?_
          refine z_lcmp hx dX6_divisor_31 ?_
          refine z_if_eq (tgt := 53) hx dX6_divisor_32 (by decide) (fun h32 => ?_) (fun h32 => ?_)
          · skip
            have hl00 : l = 0 := (pk_lEQ (by omega) (by decide)).mp ((zcmp0 h32).trans (by decide +kernel))
            refine z_lload hx 1 dX6_divisor_53 rfl ?_
            exact rl _ _ _ _ rfl ⟨_, rfl, ⟨by rw [← hgc, hl00, Nat.gcd_zero_right], rfl⟩⟩ dX6_divisor_55
          · skip
            have hl0 : 0 < l := Nat.pos_of_ne_zero (fun z => h32 (by rw [z]; decide +kernel))
            have hml := Nat.mod_lt g hl0
            refine z_lload hx 1 dX6_divisor_35 rfl ?_
            refine z_lload hx 0 dX6_divisor_37 rfl ?_
            refine z_lrem hx dX6_divisor_39 (fun z => h32 ((lg_cmp_eq _ _).mpr z)) ?_
            refine z_lstore hx (lv2 := [(8, .long ((lN g) - (lN g) / (lN l) * (lN l))), (6, .long (lN l)), (4, .long (lN g))]) dX6_divisor_40 (by decide) rfl ?_
            refine z_lload hx 1 dX6_divisor_42 rfl ?_
            refine z_lstore hx (lv2 := [(4, .long (lN l)), (8, .long ((lN g) - (lN g) / (lN l) * (lN l))), (6, .long (lN l))]) dX6_divisor_44 (by decide) rfl ?_
            refine z_lload hx 1 dX6_divisor_46 rfl ?_
            refine z_lstore hx (lv2 := [(6, .long ((lN g) - (lN g) / (lN l) * (lN l))), (4, .long (lN l)), (8, .long ((lN g) - (lN g) / (lN l) * (lN l)))]) dX6_divisor_48 (by decide) rfl ?_
            refine z_goto (tgt := 28) hx dX6_divisor_50 (by decide) ?_
            exact z_to (ih28 (g % l) l hl (by have := Nat.mod_lt g hl0; omega) (by rw [← hgc, Nat.gcd_comm g l, Nat.gcd_rec l g, Nat.gcd_comm]) (by omega)) [0, 1] (by rw [pk_lRem (by omega) hl0 (by omega)]; rfl) rfl
      exact z_to (loop28 _ b.natAbs a.natAbs (by have := ha.1; have := ha.2; omega) (by have := hb.1; have := hb.2; omega) rfl (Nat.lt_succ_self _)) [0, 1] (by rw [zabn hb (zcmpn h17), zabn ha (zcmpn h3)]; rfl) rfl
theorem zskJ2 {M : zM} {c k k' : Nat} {v q : Int64} (h : ¬ k' = k) (e : M.2 c k' = q) : (zputJ M c k v).2 c k' = q := zskKJ h e
theorem ztold_up {a : Int} {b : Nat} (ha : zrg a) (hb0 : 0 < b) (hb : b < 4611686018427387904) : Int64.ofInt a / lN (Nat.gcd a.natAbs (b : Int).natAbs) = Int64.ofInt (zTold a b true) := by
  have hg2 : Nat.gcd a.natAbs b < 4611686018427387904 := Nat.lt_of_le_of_lt (Nat.gcd_le_right _ hb0) hb
  rw [Int.natAbs_natCast, zTold, if_pos rfl, ztold_div (Nat.gcd_pos_of_pos_right _ hb0) zgcd_dvd ha hg2]
theorem ztold_low {a : Int} {b : Nat} (hb0 : 0 < b) (hb : b < 4611686018427387904) : Int64.ofInt (b : Int) / lN (Nat.gcd a.natAbs (b : Int).natAbs) = Int64.ofInt (zTold a b false) := by
  have hg2 : Nat.gcd a.natAbs b < 4611686018427387904 := Nat.lt_of_le_of_lt (Nat.gcd_le_right _ hb0) hb
  rw [Int.natAbs_natCast, zTold, if_neg (by decide), ztold_div (Nat.gcd_pos_of_pos_right _ hb0) (Int.natCast_dvd_natCast.mpr (Nat.gcd_dvd_right _ _)) ⟨by omega, by omega⟩ hg2]
theorem zbnn {b : Nat} (hb : b < 4611686018427387904) : 0 ≤ lg_cmp (Int64.ofInt (b : Int)) 0 := (lg_cmp_ge _ _).mpr (Int64.not_lt.mp (fun q => by
  have := (zlt64 (b := 0) ⟨by omega, by omega⟩ ⟨by decide, by decide⟩).mp q
  omega))
set_option maxHeartbeats 4000000 in
set_option maxRecDepth 100000 in
theorem k_X6_layFraction {E : zE} (hI : zI E) (M : zM) (a : Int) (b : Nat) (ha : zrg a) (hb0 : 0 < b) (hb : b < 4611686018427387904) : zK E yX6_layFraction (.code yX6_layFraction cX6_layFraction 7 none) (zrm 1 29) [.ref (E.2.2.2 32), .long (Int64.ofInt a), .long (Int64.ofInt (b : Int))] M (zpv (fun M2 => M2.2 32 22 = Int64.ofInt (zTold a b true) ∧ M2.2 32 23 = Int64.ofInt (zTold a b false) ∧ zfm (fun _ => False) (fun k => k = 22 ∨ k = 23) M M2)) := by
  refine zK_of hI (by decide) (Nat.le_of_ble_eq_true rfl) (fun x hx ri rz rl rv => ?_)
  show zJ E x 0 [(0, .ref (E.2.2.2 32)), (1, .long (Int64.ofInt a)), (3, .long (Int64.ofInt (b : Int)))] [] M
  have hg0 : ¬ lN (Nat.gcd a.natAbs (b : Int).natAbs) = 0 := fun z => by
      rw [Int.natAbs_natCast] at z
      have hg2 : Nat.gcd a.natAbs b < 4611686018427387904 := Nat.lt_of_le_of_lt (Nat.gcd_le_right _ hb0) hb
      have z2 := (pk_lEQ (b := 0) (by omega) (by decide)).mp (z.trans (by decide +kernel))
      have := Nat.gcd_pos_of_pos_right a.natAbs hb0
      omega
  refine z_lload_n hx 1 dX6_layFraction_0 rfl rfl ?_
  refine z_lload_n hx 2 dX6_layFraction_1 rfl rfl ?_
  refine z_callS hx (As := [.long (Int64.ofInt a), .long (Int64.ofInt (b : Int))]) (st := []) (k_X6_divisor hI M a (b : Int) ha ⟨by omega, by omega⟩) zw_810 zy_X6_divisor ⟨rfl, rfl⟩ (by decide) rfl rfl (Nat.le_of_ble_eq_true rfl) dX6_layFraction_2 ?_
  rintro _ M2 ⟨v2, rfl, q2⟩
  obtain ⟨rfl, q2⟩ := q2
  rw [q2]
  show zJ E x 5 _ [.long (lN (Nat.gcd a.natAbs (b : Int).natAbs))] _
  refine z_lstore hx (lv2 := [(5, .long (lN (Nat.gcd a.natAbs (b : Int).natAbs))), (0, .ref (E.2.2.2 32)), (1, .long (Int64.ofInt a)), (3, .long (Int64.ofInt (b : Int)))]) dX6_layFraction_5 (by decide) rfl ?_
  refine z_aload_n hx 1 dX6_layFraction_7 rfl rfl ?_
  refine z_lload_n hx 3 dX6_layFraction_8 rfl rfl ?_
  refine z_lconst hx (v := 0) dX6_layFraction_9 rfl ?_
  refine z_lcmp hx dX6_layFraction_10 ?_
  refine z_if_ge (tgt := 22) hx dX6_layFraction_11 (by decide) (fun h11 => ?_) (fun h11 => ?_)
  · skip
    refine z_lload_n hx 2 dX6_layFraction_22 rfl rfl ?_
    refine z_lload hx 0 dX6_layFraction_23 rfl ?_
    refine z_ldiv hx dX6_layFraction_25 hg0 ?_
    refine zp_X6_22 hx zw_598 dX6_layFraction_26 ?_
    refine z_aload_n hx 1 dX6_layFraction_29 rfl rfl ?_
    refine z_lload_n hx 3 dX6_layFraction_30 rfl rfl ?_
    refine z_lconst hx (v := 0) dX6_layFraction_31 rfl ?_
    refine z_lcmp hx dX6_layFraction_32 ?_
    refine z_if_ge (tgt := 44) hx dX6_layFraction_33 (by decide) (fun h33 => ?_) (fun h33 => ?_)
    · skip
      refine z_lload_n hx 3 dX6_layFraction_44 rfl rfl ?_
      refine z_lload hx 0 dX6_layFraction_45 rfl ?_
      refine z_ldiv hx dX6_layFraction_47 hg0 ?_
      refine zp_X6_23 hx zw_599 dX6_layFraction_48 ?_
      exact rv _ _ _ rfl ⟨rfl, ⟨zskJ2 (by omega) (zhtJ.trans (ztold_up ha hb0 hb)), zhtJ.trans (ztold_low hb0 hb), zfm_tr (zfm_fJ (Or.inl rfl)) (zfm_fJ (Or.inr rfl))⟩⟩ dX6_layFraction_51
    · skip
      exact absurd (zbnn hb) h33
  · skip
    exact absurd (zbnn hb) h11
set_option maxHeartbeats 4000000 in
set_option maxRecDepth 100000 in
theorem k_X6_told {E : zE} (hI : zI E) (M : zM) {a : Int} {b : Nat} (hu22 : M.2 32 22 = Int64.ofInt (zTold a b true)) (hu23 : M.2 32 23 = Int64.ofInt (zTold a b false)) (up : Bool) : zK E yX6_told (.code yX6_told cX6_told 2 (some .long)) (zrm 0 0) [.ref (E.2.2.2 32), .int (zdr up)] M (zpl (fun v M2 => v = Int64.ofInt (zTold a b up) ∧ M2 = M)) := by
  refine zK_of hI (by decide) (Nat.le_of_ble_eq_true rfl) (fun x hx ri rz rl rv => ?_)
  show zJ E x 0 [(0, .ref (E.2.2.2 32)), (1, .int (zdr up))] [] M
  refine z_iload_n hx 1 dX6_told_0 rfl rfl ?_
  refine z_if_eq_d (tgt := 11) hx dX6_told_1 (by decide) (fun h1 => ?_) (fun h1 => ?_)
  · skip
    refine z_aload_n hx 0 dX6_told_11 rfl rfl ?_
    refine zg_X6_23 hx zw_599 dX6_told_12 ?_
    refine z_eql (b := Int64.ofInt (zTold a b false)) hu23 ?_
    exact rl _ _ _ _ rfl ⟨_, rfl, ⟨by rw [h1], rfl⟩⟩ dX6_told_15
  · skip
    refine z_aload_n hx 0 dX6_told_4 rfl rfl ?_
    refine zg_X6_22 hx zw_598 dX6_told_5 ?_
    refine z_eql (b := Int64.ofInt (zTold a b true)) hu22 ?_
    refine z_goto (tgt := 15) hx dX6_told_8 (by decide) ?_
    exact rl _ _ _ _ rfl ⟨_, rfl, ⟨by rw [h1], rfl⟩⟩ dX6_told_15
