theorem zcmpge {x y : Int64} (h : 0 ≤ lg_cmp x y) : ¬ x < y := fun z => by
  have h1 := (lg_cmp_ge x y).mp h
  exact absurd z (Int64.not_lt.mpr h1)
theorem zcmpnge {x y : Int64} (h : ¬ 0 ≤ lg_cmp x y) : x < y := Int64.not_le.mp (fun z => h ((lg_cmp_ge x y).mpr z))
/-- of what is told for 0 .. the first that is least -/
def zbest (q : Nat → Option (Int × Int)) : Nat → Option (Nat × Int × Int)
  | 0 => none
  | t + 1 => match q t with
    | none => zbest q t
    | some (a, b) => match zbest q t with
      | none => some (t, a, b)
      | some (i, x, y) => if a * y < x * b then some (t, a, b) else some (i, x, y)
def zbi (o : Option (Nat × Int × Int)) : Int32 := match o with
  | none => -9
  | some (i, _, _) => nI i
def zba (o : Option (Nat × Int × Int)) : Int := match o with
  | none => 0
  | some (_, x, _) => x
def zbb (o : Option (Nat × Int × Int)) : Int := match o with
  | none => 1
  | some (_, _, y) => y
theorem zbest_mem {q : Nat → Option (Int × Int)} : ∀ {t : Nat} {i : Nat} {x y : Int}, zbest q t = some (i, x, y) → i < t ∧ q i = some (x, y)
  | 0, _, _, _, h => by cases h
  | t + 1, i, x, y, h => by
    rw [zbest] at h
    cases hq : q t with
    | none =>
      rw [hq] at h
      have := zbest_mem h
      exact ⟨by omega, this.2⟩
    | some ab =>
      obtain ⟨a, b⟩ := ab
      rw [hq] at h
      dsimp only at h
      cases hz : zbest q t with
      | none =>
        rw [hz] at h
        cases h
        exact ⟨by omega, hq⟩
      | some p =>
        obtain ⟨j, x', y'⟩ := p
        rw [hz] at h
        dsimp only at h
        split at h
        · cases h
          exact ⟨by omega, hq⟩
        · cases h
          have := zbest_mem hz
          exact ⟨by omega, this.2⟩
def zq (u : Nat) (T : Nat → Nat → Nat → Nat → Int) (D : Nat → Nat → Int) (t : Nat) : Option (Int × Int) := if 0 < D t u then some (T t u u u, D t u) else none
theorem zq_some {u : Nat} {T : Nat → Nat → Nat → Nat → Int} {D : Nat → Nat → Int} {t : Nat} {x y : Int} (h : zq u T D t = some (x, y)) : 0 < D t u ∧ x = T t u u u ∧ y = D t u := by
  unfold zq at h
  split at h
  · cases h
    exact ⟨by assumption, rfl, rfl⟩
  · cases h
theorem zbest_no {q : Nat → Option (Int × Int)} {t : Nat} (h : q t = none) : zbest q (t + 1) = zbest q t := by rw [zbest, h]
theorem zbest_first {q : Nat → Option (Int × Int)} {t : Nat} {a b : Int} (h : q t = some (a, b)) (h2 : zbest q t = none) : zbest q (t + 1) = some (t, a, b) := by rw [zbest, h, h2]
theorem zbest_yes {q : Nat → Option (Int × Int)} {t i : Nat} {a b x y : Int} (h : q t = some (a, b)) (h2 : zbest q t = some (i, x, y)) (h3 : a * y < x * b) : zbest q (t + 1) = some (t, a, b) := by
  rw [zbest, h, h2]
  exact if_pos h3
theorem zbest_nay {q : Nat → Option (Int × Int)} {t i : Nat} {a b x y : Int} (h : q t = some (a, b)) (h2 : zbest q t = some (i, x, y)) (h3 : ¬ a * y < x * b) : zbest q (t + 1) = some (i, x, y) := by
  rw [zbest, h, h2]
  exact if_neg h3
theorem zbi_none {o : Option (Nat × Int × Int)} (hi : ∀ i x y, o = some (i, x, y) → i < 8) : zbi o = -9 ↔ o = none := by
  cases o with
  | none => exact ⟨fun _ => rfl, fun _ => rfl⟩
  | some p =>
    obtain ⟨i, x, y⟩ := p
    refine ⟨fun h => ?_, fun h => by cases h⟩
    have h8 := hi i x y rfl
    have h' : nI i = -9 := h
    rcases (show i = 0 ∨ i = 1 ∨ i = 2 ∨ i = 3 ∨ i = 4 ∨ i = 5 ∨ i = 6 ∨ i = 7 by omega) with rfl | rfl | rfl | rfl | rfl | rfl | rfl | rfl <;> exact absurd h' (by decide +kernel)
def zwb (q : Nat → Option (Int × Int)) : Nat → Int32
  | 0 => nI 0
  | t + 1 => match q t with
    | none => zwb q t
    | some (a, _) => if a = 0 then zwb q t ||| (nI 1 <<< (nI t &&& 31)) else zwb q t
set_option maxHeartbeats 4000000 in
set_option maxRecDepth 100000 in
theorem k_X5_isLess {E : zE} (hI : zI E) (M : zM) (a b c e : Int64) : zK E yX5_isLess (.code yX5_isLess cX5_isLess 8 (some .boolean)) (zrm 0 0) [.long a, .long b, .long c, .long e] M (zpi (fun v M2 => ((a * e < c * b ∧ v = nI 1) ∨ (¬ a * e < c * b ∧ v = nI 0)) ∧ M2 = M)) := by
  refine zK_of hI (by decide) (Nat.le_of_ble_eq_true rfl) (fun x hx ri rz rl rv => ?_)
  show zJ E x 0 [(0, .long a), (2, .long b), (4, .long c), (6, .long e)] [] M
  refine z_lload_n hx 0 dX5_isLess_0 rfl rfl ?_
  refine z_lload hx 3 dX5_isLess_1 rfl ?_
  refine z_lmul hx dX5_isLess_3 ?_
  refine z_lload hx 2 dX5_isLess_4 rfl ?_
  refine z_lload_n hx 1 dX5_isLess_6 rfl rfl ?_
  refine z_lmul hx dX5_isLess_7 ?_
  refine z_lcmp hx dX5_isLess_8 ?_
  refine z_if_ge (tgt := 16) hx dX5_isLess_9 (by decide) (fun h9 => ?_) (fun h9 => ?_)
  · skip
    refine z_iconst hx (v := nI 0) dX5_isLess_16 (by decide +kernel) ?_
    exact rz _ _ _ _ rfl (Or.inl rfl) ⟨_, rfl, ⟨Or.inr ⟨zcmpge h9, rfl⟩, rfl⟩⟩ dX5_isLess_17
  · skip
    refine z_iconst hx (v := nI 1) dX5_isLess_12 (by decide +kernel) ?_
    refine z_goto (tgt := 17) hx dX5_isLess_13 (by decide) ?_
    exact rz _ _ _ _ rfl (Or.inr rfl) ⟨_, rfl, ⟨Or.inl ⟨zcmpnge h9, rfl⟩, rfl⟩⟩ dX5_isLess_17
set_option maxHeartbeats 4000000 in
set_option maxRecDepth 100000 in
theorem k_X1_mostDoubtful {E : zE} (hI : zI E) (M : zM) {a w n mm : Nat} {cd : Nat → Nat} {rd : Nat → Int} (ha : zRoom a) (hR : zRm M a w n mm cd rd) (d : Bool) {T : Nat → Nat → Nat → Nat → Int} {D : Nat → Nat → Int} (hT : ∀ t, t < n → zTb (zunk w d) (zGr w mm d cd rd n (fun k => !decide (k = t))) (T t) (D t)) (hrg : ∀ s t, s < n → t < n → 0 < D s (zunk w d) → 0 < D t (zunk w d) → zrg (T s (zunk w d) (zunk w d) (zunk w d) * D t (zunk w d))) : zK E yX1_mostDoubtful (.code yX1_mostDoubtful cX1_mostDoubtful 9 (some .int)) (zrm 4 99) [.ref (E.2.2.2 7), .ref (E.2.2.2 a), .int (zdr d)] M (zpi (fun v M2 => v = zbi (zbest (zq (zunk w d) T D) n) ∧ zfr (fun c => c = 7 ∨ c = 10 ∨ 15 ≤ c ∧ c ≤ 26) M M2)) := by
  refine zK_of hI (by decide) (Nat.le_of_ble_eq_true rfl) (fun x hx ri rz rl rv => ?_)
  show zJ E x 0 [(0, .ref (E.2.2.2 7)), (1, .ref (E.2.2.2 a)), (2, .int (zdr d))] [] M
  have hu := zunk_le hR.2.1.2 d
  have hge := zRoom_ge ha
  have hn8 := hR.2.2.2.2.2.1
  refine z_aload_n hx 0 dX1_mostDoubtful_0 rfl rfl ?_
  refine z_aload_n hx 1 dX1_mostDoubtful_1 rfl rfl ?_
  refine z_iload_n hx 2 dX1_mostDoubtful_2 rfl rfl ?_
  refine z_callV hx (As := [.ref (E.2.2.2 a), .int (zdr d)]) (st := []) (k_X1_gather hI M ha hR d) zw_385 zy_X1_gather ⟨rfl, rfl⟩ (by decide) (zOB_X1 E) rfl rfl rfl rfl (Nat.le_of_ble_eq_true rfl) dX1_mostDoubtful_3 ?_
  rintro _ M3 ⟨rfl, q3⟩
  show zJ E x 6 _ [] _
  refine z_bipush hx (v := (-9)) dX1_mostDoubtful_6 rfl ?_
  refine z_istore_n hx (lv2 := [(3, .int (-9)), (0, .ref (E.2.2.2 7)), (1, .ref (E.2.2.2 a)), (2, .int (zdr d))]) dX1_mostDoubtful_8 rfl (by decide) rfl ?_
  refine z_lconst hx (v := 0) dX1_mostDoubtful_9 rfl ?_
  refine z_lstore hx (lv2 := [(4, .long 0), (3, .int (-9)), (0, .ref (E.2.2.2 7)), (1, .ref (E.2.2.2 a)), (2, .int (zdr d))]) dX1_mostDoubtful_10 (by decide) rfl ?_
  refine z_lconst hx (v := 1) dX1_mostDoubtful_12 rfl ?_
  refine z_lstore hx (lv2 := [(6, .long 1), (4, .long 0), (3, .int (-9)), (0, .ref (E.2.2.2 7)), (1, .ref (E.2.2.2 a)), (2, .int (zdr d))]) dX1_mostDoubtful_13 (by decide) rfl ?_
  refine z_iconst hx (v := nI 0) dX1_mostDoubtful_15 (by decide +kernel) ?_
  refine z_istore hx (lv2 := [(8, .int (nI 0)), (6, .long 1), (4, .long 0), (3, .int (-9)), (0, .ref (E.2.2.2 7)), (1, .ref (E.2.2.2 a)), (2, .int (zdr d))]) dX1_mostDoubtful_16 (by decide) rfl ?_
  have loop18 : ∀ (fuel18 : Nat) (t : Nat) (N : zM) (_ : t ≤ n) (_ : N.1 7 3 = zdr d) (_ : N.1 7 5 = nI (zunk w d)) (_ : zfr (fun c => c = 7 ∨ c = 10 ∨ 15 ≤ c ∧ c ≤ 26) M N) (_ : ∀ p q, p ≤ q → q ≤ zunk w d → N.2 (15 + 1 * p) q = Int64.ofInt (zGr w mm d cd rd n (fun _ => true) p q)), n - t < fuel18 → zJ E x 18 [(8, .int (nI t)), (6, .long (Int64.ofInt (zbb (zbest (zq (zunk w d) T D) t)))), (4, .long (Int64.ofInt (zba (zbest (zq (zunk w d) T D) t)))), (3, .int (zbi (zbest (zq (zunk w d) T D) t))), (0, .ref (E.2.2.2 7)), (1, .ref (E.2.2.2 a)), (2, .int (zdr d))] [] N := by
    intro fuel18
    induction fuel18 with
    | zero =>
      intros; omega
    | succ fuel18 ih18 =>
      intro t N ht hN3 hN5 hNf hNs hfuel18
      refine z_iload hx 0 dX1_mostDoubtful_18 rfl ?_
      refine z_aload_n hx 5 dX1_mostDoubtful_20 rfl rfl ?_
      refine zg_X3_2 hx ha zw_87 dX1_mostDoubtful_21 ?_
      refine z_eqi (b := nI n) (zRm_fr hR hNf (by omega) (by omega) (by omega)).2.2.2.2.1 ?_
      refine z_icmp_ge_n (tgt := 82) hx (by omega) (by omega) dX1_mostDoubtful_24 (by decide) (fun h24 => ?_) (fun h24 => ?_)
      · skip
        refine z_iload_n hx 3 dX1_mostDoubtful_82 rfl rfl ?_
        exact ri _ _ _ _ rfl ⟨_, rfl, ⟨by rw [show t = n by omega], hNf⟩⟩ dX1_mostDoubtful_83
      · skip
        refine z_aload_n hx 4 dX1_mostDoubtful_27 rfl rfl ?_
        refine z_aload_n hx 5 dX1_mostDoubtful_28 rfl rfl ?_
        refine z_iload hx 0 dX1_mostDoubtful_29 rfl ?_
        refine z_callV hx (As := [.ref (E.2.2.2 a), .int (nI t)]) (st := []) (k_X1_solvesWithout hI N (t := t) ha (zRm_fr hR hNf (by omega) (by omega) (by omega)) (by omega) d hN3 hN5 hNs (T := T t) (D := D t) (by have h := hT t (by omega); have e : zGr w mm d cd rd n (fun k => !decide (k = t)) = (fun p q => zGr w mm d cd rd n (fun _ => true) p q - zLn w mm d (cd t) (rd t) t p * zLn w mm d (cd t) (rd t) t q) := funext (fun p => funext (fun q => zGr_sw (by omega) p q)); rw [e] at h; exact h)) zw_487 zy_X1_solvesWithout ⟨rfl, rfl⟩ (by decide) (zOB_X1 E) rfl rfl rfl rfl (Nat.le_of_ble_eq_true rfl) dX1_mostDoubtful_31 ?_
        rintro _ M31 ⟨v31, rfl, q31⟩
        have qs31 := q31
        obtain ⟨q31, -⟩ := q31
        rcases q31 with ⟨rfl, q31⟩ | ⟨rfl, q31⟩
        · skip
          show zJ E x 34 _ [.int (nI 1)] _
          have hq : zq (zunk w d) T D t = some (T t (zunk w d) (zunk w d) (zunk w d), D t (zunk w d)) := if_pos q31.1
          refine z_if_eq_n (tgt := 76) hx (by decide) dX1_mostDoubtful_34 (by decide) (fun h => absurd h (by decide)) (fun _ => ?_)
          refine z_iload_n hx 3 dX1_mostDoubtful_37 rfl rfl ?_
          refine z_bipush hx (v := (-9)) dX1_mostDoubtful_38 rfl ?_
          refine z_icmp_eq (tgt := 61) hx dX1_mostDoubtful_40 (by decide) (fun h40 => ?_) (fun h40 => ?_)
          · skip
            have hz : zbest (zq (zunk w d) T D) t = none := (zbi_none (fun i x y e => by have := (zbest_mem e).1; omega)).mp h40
            refine z_iload hx 0 dX1_mostDoubtful_61 rfl ?_
            refine z_istore_n hx (lv2 := [(3, .int (nI t)), (8, .int (nI t)), (6, .long (Int64.ofInt (zbb (zbest (zq (zunk w d) T D) t)))), (4, .long (Int64.ofInt (zba (zbest (zq (zunk w d) T D) t)))), (0, .ref (E.2.2.2 7)), (1, .ref (E.2.2.2 a)), (2, .int (zdr d))]) dX1_mostDoubtful_63 rfl (by decide) rfl ?_
            refine z_aload_n hx 4 dX1_mostDoubtful_64 rfl rfl ?_
            refine z_callV hx (As := []) (st := []) (k_X1_squaresAbove hI M31 (by rw [qs31.2.1]; exact hN5) hu q31.2.2) zw_491 zy_X1_squaresAbove ⟨rfl, rfl⟩ (by decide) (zOB_X1 E) rfl rfl rfl rfl (Nat.le_of_ble_eq_true rfl) dX1_mostDoubtful_65 ?_
            rintro _ M65 ⟨v65, rfl, q65⟩
            obtain ⟨rfl, q65⟩ := q65
            rw [q65]
            show zJ E x 68 _ [.long (Int64.ofInt (T t (zunk w d) (zunk w d) (zunk w d)))] _
            refine z_lstore hx (lv2 := [(4, .long (Int64.ofInt (T t (zunk w d) (zunk w d) (zunk w d)))), (3, .int (nI t)), (8, .int (nI t)), (6, .long (Int64.ofInt (zbb (zbest (zq (zunk w d) T D) t)))), (0, .ref (E.2.2.2 7)), (1, .ref (E.2.2.2 a)), (2, .int (zdr d))]) dX1_mostDoubtful_68 (by decide) rfl ?_
            refine z_aload_n hx 4 dX1_mostDoubtful_70 rfl rfl ?_
            refine zg_X1_6 hx zw_137 dX1_mostDoubtful_71 ?_
            refine z_eql (b := Int64.ofInt (D t (zunk w d))) q31.2.1 ?_
            refine z_lstore hx (lv2 := [(6, .long (Int64.ofInt (D t (zunk w d)))), (4, .long (Int64.ofInt (T t (zunk w d) (zunk w d) (zunk w d)))), (3, .int (nI t)), (8, .int (nI t)), (0, .ref (E.2.2.2 7)), (1, .ref (E.2.2.2 a)), (2, .int (zdr d))]) dX1_mostDoubtful_74 (by decide) rfl ?_
            refine z_iinc hx (w := nI (t + 1)) (lv2 := [(8, .int (nI (t + 1))), (6, .long (Int64.ofInt (D t (zunk w d)))), (4, .long (Int64.ofInt (T t (zunk w d) (zunk w d) (zunk w d)))), (3, .int (nI t)), (0, .ref (E.2.2.2 7)), (1, .ref (E.2.2.2 a)), (2, .int (zdr d))]) 3 dX1_mostDoubtful_76 rfl (z_inc _) (by decide) rfl ?_
            refine z_goto (tgt := 18) hx dX1_mostDoubtful_79 (by decide) ?_
            exact z_to (ih18 (t + 1) M31 (by omega) (by rw [qs31.2.1]; exact hN3) (by rw [qs31.2.1]; exact hN5) (zfr_tr hNf qs31.2.2.1) (fun p q z1 z2 => by rw [qs31.2.2.2 p q z1 z2]; exact hNs p q z1 z2) (by omega)) [0, 1, 2, 3, 4, 5, 6] (by rw [zbest_first hq hz]; rfl) rfl
          · skip
            obtain ⟨⟨i, x0, y0⟩, hz⟩ : ∃ o, zbest (zq (zunk w d) T D) t = some o := by
              cases hz : zbest (zq (zunk w d) T D) t with
              | none => exact absurd (by rw [hz]; rfl) h40
              | some o => exact ⟨o, rfl⟩
            obtain ⟨hi1, hi2⟩ := zbest_mem hz
            obtain ⟨hi3, hi4, hi5⟩ := zq_some hi2
            have hba : zba (zbest (zq (zunk w d) T D) t) = x0 := by rw [hz]; rfl
            have hbb : zbb (zbest (zq (zunk w d) T D) t) = y0 := by rw [hz]; rfl
            refine z_aload_n hx 4 dX1_mostDoubtful_43 rfl rfl ?_
            refine z_callV hx (As := []) (st := []) (k_X1_squaresAbove hI M31 (by rw [qs31.2.1]; exact hN5) hu q31.2.2) zw_491 zy_X1_squaresAbove ⟨rfl, rfl⟩ (by decide) (zOB_X1 E) rfl rfl rfl rfl (Nat.le_of_ble_eq_true rfl) dX1_mostDoubtful_44 ?_
            rintro _ M44 ⟨v44, rfl, q44⟩
            obtain ⟨rfl, q44⟩ := q44
            rw [q44]
            show zJ E x 47 _ [.long (Int64.ofInt (T t (zunk w d) (zunk w d) (zunk w d)))] _
            refine z_aload_n hx 4 dX1_mostDoubtful_47 rfl rfl ?_
            refine zg_X1_6 hx zw_137 dX1_mostDoubtful_48 ?_
            refine z_eql (b := Int64.ofInt (D t (zunk w d))) q31.2.1 ?_
            refine z_lload hx 2 dX1_mostDoubtful_51 rfl ?_
            refine z_lload hx 1 dX1_mostDoubtful_53 rfl ?_
            refine z_callN hx (As := [.long (Int64.ofInt (T t (zunk w d) (zunk w d) (zunk w d))), .long (Int64.ofInt (D t (zunk w d))), .long (Int64.ofInt (zba (zbest (zq (zunk w d) T D) t))), .long (Int64.ofInt (zbb (zbest (zq (zunk w d) T D) t)))]) (st := []) (k_X5_isLess hI M31 (Int64.ofInt (T t (zunk w d) (zunk w d) (zunk w d))) (Int64.ofInt (D t (zunk w d))) (Int64.ofInt (zba (zbest (zq (zunk w d) T D) t))) (Int64.ofInt (zbb (zbest (zq (zunk w d) T D) t)))) zy_X5_isLess ⟨rfl, rfl⟩ (by decide) rfl rfl (Nat.le_of_ble_eq_true rfl) dX1_mostDoubtful_55 ?_
            rintro _ M55 ⟨v55, rfl, q55⟩
            obtain ⟨q55, q55m⟩ := q55
            rw [q55m]
            rcases q55 with ⟨q55, rfl⟩ | ⟨q55, rfl⟩
            · skip
              show zJ E x 58 _ [.int (nI 1)] _
              have hlt := q55
              rw [hba, hbb, zI64_mul, zI64_mul, zlt64 (by rw [hi5]; exact hrg t i (by omega) (by omega) q31.1 hi3) (by rw [hi4]; exact hrg i t (by omega) (by omega) hi3 q31.1)] at hlt
              refine z_if_eq_n (tgt := 76) hx (by decide) dX1_mostDoubtful_58 (by decide) (fun h => absurd h (by decide)) (fun _ => ?_)
              refine z_iload hx 0 dX1_mostDoubtful_61 rfl ?_
              refine z_istore_n hx (lv2 := [(3, .int (nI t)), (8, .int (nI t)), (6, .long (Int64.ofInt (zbb (zbest (zq (zunk w d) T D) t)))), (4, .long (Int64.ofInt (zba (zbest (zq (zunk w d) T D) t)))), (0, .ref (E.2.2.2 7)), (1, .ref (E.2.2.2 a)), (2, .int (zdr d))]) dX1_mostDoubtful_63 rfl (by decide) rfl ?_
              refine z_aload_n hx 4 dX1_mostDoubtful_64 rfl rfl ?_
              refine z_callV hx (As := []) (st := []) (k_X1_squaresAbove hI M31 (by rw [qs31.2.1]; exact hN5) hu q31.2.2) zw_491 zy_X1_squaresAbove ⟨rfl, rfl⟩ (by decide) (zOB_X1 E) rfl rfl rfl rfl (Nat.le_of_ble_eq_true rfl) dX1_mostDoubtful_65 ?_
              rintro _ M65 ⟨v65, rfl, q65⟩
              obtain ⟨rfl, q65⟩ := q65
              rw [q65]
              show zJ E x 68 _ [.long (Int64.ofInt (T t (zunk w d) (zunk w d) (zunk w d)))] _
              refine z_lstore hx (lv2 := [(4, .long (Int64.ofInt (T t (zunk w d) (zunk w d) (zunk w d)))), (3, .int (nI t)), (8, .int (nI t)), (6, .long (Int64.ofInt (zbb (zbest (zq (zunk w d) T D) t)))), (0, .ref (E.2.2.2 7)), (1, .ref (E.2.2.2 a)), (2, .int (zdr d))]) dX1_mostDoubtful_68 (by decide) rfl ?_
              refine z_aload_n hx 4 dX1_mostDoubtful_70 rfl rfl ?_
              refine zg_X1_6 hx zw_137 dX1_mostDoubtful_71 ?_
              refine z_eql (b := Int64.ofInt (D t (zunk w d))) q31.2.1 ?_
              refine z_lstore hx (lv2 := [(6, .long (Int64.ofInt (D t (zunk w d)))), (4, .long (Int64.ofInt (T t (zunk w d) (zunk w d) (zunk w d)))), (3, .int (nI t)), (8, .int (nI t)), (0, .ref (E.2.2.2 7)), (1, .ref (E.2.2.2 a)), (2, .int (zdr d))]) dX1_mostDoubtful_74 (by decide) rfl ?_
              refine z_iinc hx (w := nI (t + 1)) (lv2 := [(8, .int (nI (t + 1))), (6, .long (Int64.ofInt (D t (zunk w d)))), (4, .long (Int64.ofInt (T t (zunk w d) (zunk w d) (zunk w d)))), (3, .int (nI t)), (0, .ref (E.2.2.2 7)), (1, .ref (E.2.2.2 a)), (2, .int (zdr d))]) 3 dX1_mostDoubtful_76 rfl (z_inc _) (by decide) rfl ?_
              refine z_goto (tgt := 18) hx dX1_mostDoubtful_79 (by decide) ?_
              exact z_to (ih18 (t + 1) M31 (by omega) (by rw [qs31.2.1]; exact hN3) (by rw [qs31.2.1]; exact hN5) (zfr_tr hNf qs31.2.2.1) (fun p q z1 z2 => by rw [qs31.2.2.2 p q z1 z2]; exact hNs p q z1 z2) (by omega)) [0, 1, 2, 3, 4, 5, 6] (by rw [zbest_yes hq hz hlt]; rfl) rfl
            · skip
              show zJ E x 58 _ [.int (nI 0)] _
              have hlt := q55
              rw [hba, hbb, zI64_mul, zI64_mul, zlt64 (by rw [hi5]; exact hrg t i (by omega) (by omega) q31.1 hi3) (by rw [hi4]; exact hrg i t (by omega) (by omega) hi3 q31.1)] at hlt
              refine z_if_eq_n (tgt := 76) hx (by decide) dX1_mostDoubtful_58 (by decide) (fun _ => ?_) (fun h => absurd h (by decide))
              refine z_iinc hx (w := nI (t + 1)) (lv2 := [(8, .int (nI (t + 1))), (6, .long (Int64.ofInt (zbb (zbest (zq (zunk w d) T D) t)))), (4, .long (Int64.ofInt (zba (zbest (zq (zunk w d) T D) t)))), (3, .int (zbi (zbest (zq (zunk w d) T D) t))), (0, .ref (E.2.2.2 7)), (1, .ref (E.2.2.2 a)), (2, .int (zdr d))]) 0 dX1_mostDoubtful_76 rfl (z_inc _) (by decide) rfl ?_
              refine z_goto (tgt := 18) hx dX1_mostDoubtful_79 (by decide) ?_
              exact z_to (ih18 (t + 1) M31 (by omega) (by rw [qs31.2.1]; exact hN3) (by rw [qs31.2.1]; exact hN5) (zfr_tr hNf qs31.2.2.1) (fun p q z1 z2 => by rw [qs31.2.2.2 p q z1 z2]; exact hNs p q z1 z2) (by omega)) [0, 1, 2, 3, 4, 5, 6] (by rw [Eq.trans (zbest_nay hq hz hlt) (Eq.symm hz)]; rfl) rfl
        · skip
          show zJ E x 34 _ [.int (nI 0)] _
          have hq : zq (zunk w d) T D t = none := if_neg (by omega)
          refine z_if_eq_n (tgt := 76) hx (by decide) dX1_mostDoubtful_34 (by decide) (fun _ => ?_) (fun h => absurd h (by decide))
          refine z_iinc hx (w := nI (t + 1)) (lv2 := [(8, .int (nI (t + 1))), (6, .long (Int64.ofInt (zbb (zbest (zq (zunk w d) T D) t)))), (4, .long (Int64.ofInt (zba (zbest (zq (zunk w d) T D) t)))), (3, .int (zbi (zbest (zq (zunk w d) T D) t))), (0, .ref (E.2.2.2 7)), (1, .ref (E.2.2.2 a)), (2, .int (zdr d))]) 0 dX1_mostDoubtful_76 rfl (z_inc _) (by decide) rfl ?_
          refine z_goto (tgt := 18) hx dX1_mostDoubtful_79 (by decide) ?_
          exact z_to (ih18 (t + 1) M31 (by omega) (by rw [qs31.2.1]; exact hN3) (by rw [qs31.2.1]; exact hN5) (zfr_tr hNf qs31.2.2.1) (fun p q z1 z2 => by rw [qs31.2.2.2 p q z1 z2]; exact hNs p q z1 z2) (by omega)) [0, 1, 2, 3, 4, 5, 6] (by rw [zbest_no hq]; rfl) rfl
  exact z_to (loop18 _ 0 M3 (by omega) q3.1 q3.2.2.1 (zfr_w q3.2.2.2.1 (fun c h => by omega)) (fun p q z1 z2 => by rw [q3.2.2.2.2 p q z1 z2, zGr_all]) (Nat.lt_succ_self _)) [0, 1, 2, 3, 4, 5, 6] rfl rfl
set_option maxHeartbeats 4000000 in
set_option maxRecDepth 100000 in
theorem k_X1_thoseAlone {E : zE} (hI : zI E) (M : zM) {a w n mm : Nat} {cd : Nat → Nat} {rd : Nat → Int} (ha : zRoom a) (hR : zRm M a w n mm cd rd) (d : Bool) {T : Nat → Nat → Nat → Nat → Int} {D : Nat → Nat → Int} (hT : ∀ t, t < n → zTb (zunk w d) (zGr w mm d cd rd n (fun k => !decide (k = t))) (T t) (D t)) (hrg : ∀ t, t < n → 0 < D t (zunk w d) → zrg (T t (zunk w d) (zunk w d) (zunk w d))) : zK E yX1_thoseAlone (.code yX1_thoseAlone cX1_thoseAlone 5 (some .int)) (zrm 4 99) [.ref (E.2.2.2 7), .ref (E.2.2.2 a), .int (zdr d)] M (zpi (fun v M2 => v = zwb (zq (zunk w d) T D) n ∧ zfr (fun c => c = 7 ∨ c = 10 ∨ 15 ≤ c ∧ c ≤ 26) M M2)) := by
  refine zK_of hI (by decide) (Nat.le_of_ble_eq_true rfl) (fun x hx ri rz rl rv => ?_)
  show zJ E x 0 [(0, .ref (E.2.2.2 7)), (1, .ref (E.2.2.2 a)), (2, .int (zdr d))] [] M
  have hu := zunk_le hR.2.1.2 d
  have hge := zRoom_ge ha
  have hn8 := hR.2.2.2.2.2.1
  refine z_aload_n hx 0 dX1_thoseAlone_0 rfl rfl ?_
  refine z_aload_n hx 1 dX1_thoseAlone_1 rfl rfl ?_
  refine z_iload_n hx 2 dX1_thoseAlone_2 rfl rfl ?_
  refine z_callV hx (As := [.ref (E.2.2.2 a), .int (zdr d)]) (st := []) (k_X1_gather hI M ha hR d) zw_385 zy_X1_gather ⟨rfl, rfl⟩ (by decide) (zOB_X1 E) rfl rfl rfl rfl (Nat.le_of_ble_eq_true rfl) dX1_thoseAlone_3 ?_
  rintro _ M3 ⟨rfl, q3⟩
  show zJ E x 6 _ [] _
  refine z_iconst hx (v := nI 0) dX1_thoseAlone_6 (by decide +kernel) ?_
  refine z_istore_n hx (lv2 := [(3, .int (nI 0)), (0, .ref (E.2.2.2 7)), (1, .ref (E.2.2.2 a)), (2, .int (zdr d))]) dX1_thoseAlone_7 rfl (by decide) rfl ?_
  refine z_iconst hx (v := nI 0) dX1_thoseAlone_8 (by decide +kernel) ?_
  refine z_istore hx (lv2 := [(4, .int (nI 0)), (3, .int (nI 0)), (0, .ref (E.2.2.2 7)), (1, .ref (E.2.2.2 a)), (2, .int (zdr d))]) dX1_thoseAlone_9 (by decide) rfl ?_
  have loop11 : ∀ (fuel11 : Nat) (t : Nat) (N : zM) (_ : t ≤ n) (_ : N.1 7 3 = zdr d) (_ : N.1 7 5 = nI (zunk w d)) (_ : zfr (fun c => c = 7 ∨ c = 10 ∨ 15 ≤ c ∧ c ≤ 26) M N) (_ : ∀ p q, p ≤ q → q ≤ zunk w d → N.2 (15 + 1 * p) q = Int64.ofInt (zGr w mm d cd rd n (fun _ => true) p q)), n - t < fuel11 → zJ E x 11 [(4, .int (nI t)), (3, .int (zwb (zq (zunk w d) T D) t)), (0, .ref (E.2.2.2 7)), (1, .ref (E.2.2.2 a)), (2, .int (zdr d))] [] N := by
    intro fuel11
    induction fuel11 with
    | zero =>
      intros; omega
    | succ fuel11 ih11 =>
      intro t N ht hN3 hN5 hNf hNs hfuel11
      refine z_iload hx 0 dX1_thoseAlone_11 rfl ?_
      refine z_aload_n hx 3 dX1_thoseAlone_13 rfl rfl ?_
      refine zg_X3_2 hx ha zw_87 dX1_thoseAlone_14 ?_
      refine z_eqi (b := nI n) (zRm_fr hR hNf (by omega) (by omega) (by omega)).2.2.2.2.1 ?_
      refine z_icmp_ge_n (tgt := 52) hx (by omega) (by omega) dX1_thoseAlone_17 (by decide) (fun h17 => ?_) (fun h17 => ?_)
      · skip
        refine z_iload_n hx 1 dX1_thoseAlone_52 rfl rfl ?_
        exact ri _ _ _ _ rfl ⟨_, rfl, ⟨by rw [show t = n by omega], hNf⟩⟩ dX1_thoseAlone_53
      · skip
        refine z_aload_n hx 2 dX1_thoseAlone_20 rfl rfl ?_
        refine z_aload_n hx 3 dX1_thoseAlone_21 rfl rfl ?_
        refine z_iload hx 0 dX1_thoseAlone_22 rfl ?_
        refine z_callV hx (As := [.ref (E.2.2.2 a), .int (nI t)]) (st := []) (k_X1_solvesWithout hI N (t := t) ha (zRm_fr hR hNf (by omega) (by omega) (by omega)) (by omega) d hN3 hN5 hNs (T := T t) (D := D t) (by have h := hT t (by omega); have e : zGr w mm d cd rd n (fun k => !decide (k = t)) = (fun p q => zGr w mm d cd rd n (fun _ => true) p q - zLn w mm d (cd t) (rd t) t p * zLn w mm d (cd t) (rd t) t q) := funext (fun p => funext (fun q => zGr_sw (by omega) p q)); rw [e] at h; exact h)) zw_487 zy_X1_solvesWithout ⟨rfl, rfl⟩ (by decide) (zOB_X1 E) rfl rfl rfl rfl (Nat.le_of_ble_eq_true rfl) dX1_thoseAlone_24 ?_
        rintro _ M24 ⟨v24, rfl, q24⟩
        have qs24 := q24
        obtain ⟨q24, -⟩ := q24
        rcases q24 with ⟨rfl, q24⟩ | ⟨rfl, q24⟩
        · skip
          show zJ E x 27 _ [.int (nI 1)] _
          have hq : zq (zunk w d) T D t = some (T t (zunk w d) (zunk w d) (zunk w d), D t (zunk w d)) := if_pos q24.1
          refine z_if_eq_n (tgt := 46) hx (by decide) dX1_thoseAlone_27 (by decide) (fun h => absurd h (by decide)) (fun _ => ?_)
          refine z_aload_n hx 2 dX1_thoseAlone_30 rfl rfl ?_
          refine z_callV hx (As := []) (st := []) (k_X1_squaresAbove hI M24 (by rw [qs24.2.1]; exact hN5) hu q24.2.2) zw_491 zy_X1_squaresAbove ⟨rfl, rfl⟩ (by decide) (zOB_X1 E) rfl rfl rfl rfl (Nat.le_of_ble_eq_true rfl) dX1_thoseAlone_31 ?_
          rintro _ M31 ⟨v31, rfl, q31⟩
          obtain ⟨rfl, q31⟩ := q31
          rw [q31]
          show zJ E x 34 _ [.long (Int64.ofInt (T t (zunk w d) (zunk w d) (zunk w d)))] _
          refine z_lconst hx (v := 0) dX1_thoseAlone_34 rfl ?_
          refine z_lcmp hx dX1_thoseAlone_35 ?_
          refine z_if_ne (tgt := 46) hx dX1_thoseAlone_36 (by decide) (fun h36 => ?_) (fun h36 => ?_)
          · skip
            have hsz : ¬ T t (zunk w d) (zunk w d) (zunk w d) = 0 := fun z => h36 (by rw [z]; decide +kernel)
            refine z_iinc hx (w := nI (t + 1)) (lv2 := [(4, .int (nI (t + 1))), (3, .int (zwb (zq (zunk w d) T D) t)), (0, .ref (E.2.2.2 7)), (1, .ref (E.2.2.2 a)), (2, .int (zdr d))]) 0 dX1_thoseAlone_46 rfl (z_inc _) (by decide) rfl ?_
            refine z_goto (tgt := 11) hx dX1_thoseAlone_49 (by decide) ?_
            exact z_to (ih11 (t + 1) M24 (by omega) (by rw [qs24.2.1]; exact hN3) (by rw [qs24.2.1]; exact hN5) (zfr_tr hNf qs24.2.2.1) (fun p q z1 z2 => by rw [qs24.2.2.2 p q z1 z2]; exact hNs p q z1 z2) (by omega)) [0, 1, 2, 3, 4] (by rw [zwb, hq]; dsimp only; rw [if_neg hsz]; rfl) rfl
          · skip
            have hsz : T t (zunk w d) (zunk w d) (zunk w d) = 0 := (zeq64 (hrg t (by omega) q24.1) (b := 0) ⟨by decide, by decide⟩).mp (zcmp0 h36)
            refine z_iload_n hx 1 dX1_thoseAlone_39 rfl rfl ?_
            refine z_iconst hx (v := nI 1) dX1_thoseAlone_40 (by decide +kernel) ?_
            refine z_iload hx 0 dX1_thoseAlone_41 rfl ?_
            refine z_ishl hx dX1_thoseAlone_43 ?_
            refine z_ior hx dX1_thoseAlone_44 ?_
            refine z_istore_n hx (lv2 := [(3, .int ((zwb (zq (zunk w d) T D) t) ||| ((nI 1) <<< ((nI t) &&& 31)))), (4, .int (nI t)), (0, .ref (E.2.2.2 7)), (1, .ref (E.2.2.2 a)), (2, .int (zdr d))]) dX1_thoseAlone_45 rfl (by decide) rfl ?_
            refine z_iinc hx (w := nI (t + 1)) (lv2 := [(4, .int (nI (t + 1))), (3, .int ((zwb (zq (zunk w d) T D) t) ||| ((nI 1) <<< ((nI t) &&& 31)))), (0, .ref (E.2.2.2 7)), (1, .ref (E.2.2.2 a)), (2, .int (zdr d))]) 1 dX1_thoseAlone_46 rfl (z_inc _) (by decide) rfl ?_
            refine z_goto (tgt := 11) hx dX1_thoseAlone_49 (by decide) ?_
            exact z_to (ih11 (t + 1) M24 (by omega) (by rw [qs24.2.1]; exact hN3) (by rw [qs24.2.1]; exact hN5) (zfr_tr hNf qs24.2.2.1) (fun p q z1 z2 => by rw [qs24.2.2.2 p q z1 z2]; exact hNs p q z1 z2) (by omega)) [0, 1, 2, 3, 4] (by rw [zwb, hq]; dsimp only; rw [if_pos hsz]; rfl) rfl
        · skip
          show zJ E x 27 _ [.int (nI 0)] _
          have hq : zq (zunk w d) T D t = none := if_neg (by omega)
          refine z_if_eq_n (tgt := 46) hx (by decide) dX1_thoseAlone_27 (by decide) (fun _ => ?_) (fun h => absurd h (by decide))
          refine z_iinc hx (w := nI (t + 1)) (lv2 := [(4, .int (nI (t + 1))), (3, .int (zwb (zq (zunk w d) T D) t)), (0, .ref (E.2.2.2 7)), (1, .ref (E.2.2.2 a)), (2, .int (zdr d))]) 0 dX1_thoseAlone_46 rfl (z_inc _) (by decide) rfl ?_
          refine z_goto (tgt := 11) hx dX1_thoseAlone_49 (by decide) ?_
          exact z_to (ih11 (t + 1) M24 (by omega) (by rw [qs24.2.1]; exact hN3) (by rw [qs24.2.1]; exact hN5) (zfr_tr hNf qs24.2.2.1) (fun p q z1 z2 => by rw [qs24.2.2.2 p q z1 z2]; exact hNs p q z1 z2) (by omega)) [0, 1, 2, 3, 4] (by rw [zwb, hq]; rfl) rfl
  exact z_to (loop11 _ 0 M3 (by omega) q3.1 q3.2.2.1 (zfr_w q3.2.2.2.1 (fun c h => by omega)) (fun p q z1 z2 => by rw [q3.2.2.2.2 p q z1 z2, zGr_all]) (Nat.lt_succ_self _)) [0, 1, 2, 3, 4] rfl rfl
