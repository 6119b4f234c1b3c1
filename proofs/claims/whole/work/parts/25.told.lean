/-- without its place i -/
def zskp (i p : Nat) : Nat := if p < i then p else p + 1
/-- the determinant of the first n rows and columns, by the last column -/
def zdet : Nat → (Nat → Nat → Int) → Int
  | 0, _ => 1
  | n + 1, A => zS (n + 1) (fun i => (if (n - i) % 2 = 0 then 1 else -1) * A i n * zdet n (fun p q => A (zskp i p) q))
def zVal (G : Nat → Nat → Int) (u i : Nat) : Int := zdet u (fun p q => if q = i then G p u else G p q)
def zMin (G : Nat → Nat → Int) (u i : Nat) : Int := zdet (u - 1) (fun p q => G (zskp i p) (zskp i q))
def zSq (G : Nat → Nat → Int) (u : Nat) : Int := zdet u G * G u u - zS u (fun i => zVal G u i * G i u)
/-- one side of a fraction in least terms -/
def zTold (a : Int) (b : Nat) (up : Bool) : Int := if up then a / (Nat.gcd a.natAbs b : Int) else (b : Int) / (Nat.gcd a.natAbs b : Int)
theorem zlN_ofInt (n : Nat) : lN n = Int64.ofInt (n : Int) := Int64.ofInt_eq_ofNat.symm
theorem zhalf {g l : Nat} (h0 : 0 < l) (h : l ≤ g) : 2 * (l * (g % l)) ≤ g * l := by
  have h1 : 2 * (g % l) ≤ g := by
    have h2 := Nat.mod_lt g h0
    have h3 := Nat.div_add_mod g l
    have h4 : 1 ≤ g / l := Nat.div_pos h h0
    have h5 : l * 1 ≤ l * (g / l) := Nat.mul_le_mul_left l h4
    omega
  calc 2 * (l * (g % l)) = l * (2 * (g % l)) := by rw [Nat.mul_left_comm]
    _ ≤ l * g := Nat.mul_le_mul_left l h1
    _ = g * l := Nat.mul_comm l g
theorem zcd_step {k g l : Nat} (hg : g < 4611686018427387904) (hl : l < 4611686018427387904) (h0 : 0 < l) (hle : 0 < k → l ≤ g) (h : g * l * 2 ^ k < 2 ^ 126) : l * (g % l) * 2 ^ (k + 1) < 2 ^ 126 := by
  rcases Nat.lt_or_ge g l with q | q
  · have hk : k = 0 := by
      rcases Nat.eq_zero_or_pos k with z | z
      · exact z
      · have := hle z
        omega
    subst hk
    have h1 : l * (g % l) ≤ 4611686018427387904 * 4611686018427387904 := Nat.mul_le_mul (by omega) (by have := Nat.mod_lt g h0; omega)
    have h2 : (4611686018427387904 * 4611686018427387904 * 2 ^ (0 + 1) : Nat) < 2 ^ 126 := by decide
    exact Nat.lt_of_le_of_lt (Nat.mul_le_mul_right _ h1) h2
  · have h1 := zhalf h0 q
    have h2 : l * (g % l) * 2 ^ (k + 1) = 2 * (l * (g % l)) * 2 ^ k := by
      rw [Nat.pow_succ, Nat.mul_comm (2 ^ k) 2, ← Nat.mul_assoc, Nat.mul_comm (l * (g % l)) 2]
    rw [h2]
    exact Nat.lt_of_le_of_lt (Nat.mul_le_mul_right _ h1) h
theorem zcd_end {g l : Nat} (h : g * l * 2 ^ 130 < 2 ^ 126) (hg : 0 < g) : l = 0 := by
  rcases Nat.eq_zero_or_pos l with z | z
  · exact z
  · have h1 : 1 ≤ g * l := Nat.mul_pos hg z
    have h2 : 1 * 2 ^ 130 ≤ g * l * 2 ^ 130 := Nat.mul_le_mul_right _ h1
    have h3 : (2 ^ 126 : Nat) < 1 * 2 ^ 130 := by decide
    omega
set_option maxHeartbeats 4000000 in
set_option maxRecDepth 100000 in
theorem k_X5_commonDivisor {E : zE} (hI : zI E) (M : zM) (a b : Nat) (ha : a < 4611686018427387904) (hb : b < 4611686018427387904) : zK E yX5_commonDivisor (.code yX5_commonDivisor cX5_commonDivisor 11 (some .long)) (zrm 0 0) [.long (lN a), .long (lN b)] M (zpl (fun v M2 => v = lN (Nat.gcd a b) ∧ M2 = M)) := by
  refine zK_of hI (by decide) (Nat.le_of_ble_eq_true rfl) (fun x hx ri rz rl rv => ?_)
  show zJ E x 0 [(0, .long (lN a)), (2, .long (lN b))] [] M
  refine z_lload_n hx 0 dX5_commonDivisor_0 rfl rfl ?_
  refine z_lstore hx (lv2 := [(4, .long (lN a)), (0, .long (lN a)), (2, .long (lN b))]) dX5_commonDivisor_1 (by decide) rfl ?_
  refine z_lload_n hx 2 dX5_commonDivisor_3 rfl rfl ?_
  refine z_lstore hx (lv2 := [(6, .long (lN b)), (4, .long (lN a)), (0, .long (lN a)), (2, .long (lN b))]) dX5_commonDivisor_4 (by decide) rfl ?_
  refine z_iconst hx (v := nI 0) dX5_commonDivisor_6 (by decide +kernel) ?_
  refine z_istore hx (lv2 := [(8, .int (nI 0)), (6, .long (lN b)), (4, .long (lN a)), (0, .long (lN a)), (2, .long (lN b))]) dX5_commonDivisor_7 (by decide) rfl ?_
  have loop9 : ∀ (fuel9 : Nat) (k g l : Nat) (_ : k ≤ 130) (_ : g < 4611686018427387904) (_ : l < 4611686018427387904) (_ : Nat.gcd g l = Nat.gcd a b) (_ : 0 < g ∨ k = 0) (_ : 0 < k → l ≤ g) (_ : g * l * 2 ^ k < 2 ^ 126), 130 - k < fuel9 → zJ E x 9 [(8, .int (nI k)), (6, .long (lN l)), (4, .long (lN g)), (0, .long (lN a)), (2, .long (lN b))] [] M := by
    intro fuel9
    induction fuel9 with
    | zero =>
      intros; omega
    | succ fuel9 ih9 =>
      intro k g l hk hg hl hgc hpos hle hpr hfuel9
      refine z_iload hx 0 dX5_commonDivisor_9 rfl ?_
      refine z_sipush hx (v := nI 130) dX5_commonDivisor_11 (by decide +kernel) ?_
      refine z_icmp_ge_n (tgt := 45) hx (by omega) (by omega) dX5_commonDivisor_14 (by decide) (fun h14 => ?_) (fun h14 => ?_)
      · skip
        have hl00 : l = 0 := zcd_end (by rw [show k = 130 by omega] at hpr; exact hpr) (by rcases hpos with z | z; exact z; omega)
        refine z_lload hx 2 dX5_commonDivisor_45 rfl ?_
        exact rl _ _ _ _ rfl ⟨_, rfl, ⟨by rw [← hgc, hl00, Nat.gcd_zero_right], rfl⟩⟩ dX5_commonDivisor_47
      · skip
        refine z_lload hx 1 dX5_commonDivisor_17 rfl ?_
        refine z_lconst hx (v := 0) dX5_commonDivisor_19 rfl ?_
        refine z_lcmp hx dX5_commonDivisor_20 ?_
        refine z_if_eq (tgt := 45) hx dX5_commonDivisor_21 (by decide) (fun h21 => ?_) (fun h21 => ?_)
        · skip
          have hl00 : l = 0 := (pk_lEQ (by omega) (by decide)).mp ((zcmp0 h21).trans (by decide +kernel))
          refine z_lload hx 2 dX5_commonDivisor_45 rfl ?_
          exact rl _ _ _ _ rfl ⟨_, rfl, ⟨by rw [← hgc, hl00, Nat.gcd_zero_right], rfl⟩⟩ dX5_commonDivisor_47
        · skip
          have hl0 : 0 < l := Nat.pos_of_ne_zero (fun z => h21 (by rw [z]; decide +kernel))
          refine z_lload hx 2 dX5_commonDivisor_24 rfl ?_
          refine z_lload hx 1 dX5_commonDivisor_26 rfl ?_
          refine z_lrem hx dX5_commonDivisor_28 (fun z => h21 ((lg_cmp_eq _ _).mpr z)) ?_
          refine z_lstore hx (lv2 := [(9, .long ((lN g) - (lN g) / (lN l) * (lN l))), (8, .int (nI k)), (6, .long (lN l)), (4, .long (lN g)), (0, .long (lN a)), (2, .long (lN b))]) dX5_commonDivisor_29 (by decide) rfl ?_
          refine z_lload hx 2 dX5_commonDivisor_31 rfl ?_
          refine z_lstore hx (lv2 := [(4, .long (lN l)), (9, .long ((lN g) - (lN g) / (lN l) * (lN l))), (8, .int (nI k)), (6, .long (lN l)), (0, .long (lN a)), (2, .long (lN b))]) dX5_commonDivisor_33 (by decide) rfl ?_
          refine z_lload hx 1 dX5_commonDivisor_35 rfl ?_
          refine z_lstore hx (lv2 := [(6, .long ((lN g) - (lN g) / (lN l) * (lN l))), (4, .long (lN l)), (9, .long ((lN g) - (lN g) / (lN l) * (lN l))), (8, .int (nI k)), (0, .long (lN a)), (2, .long (lN b))]) dX5_commonDivisor_37 (by decide) rfl ?_
          refine z_iinc hx (w := nI (k + 1)) (lv2 := [(8, .int (nI (k + 1))), (6, .long ((lN g) - (lN g) / (lN l) * (lN l))), (4, .long (lN l)), (9, .long ((lN g) - (lN g) / (lN l) * (lN l))), (0, .long (lN a)), (2, .long (lN b))]) 3 dX5_commonDivisor_39 rfl (z_inc _) (by decide) rfl ?_
          refine z_goto (tgt := 9) hx dX5_commonDivisor_42 (by decide) ?_
          exact z_to (ih9 (k + 1) l (g % l) (by omega) hl (by have := Nat.mod_lt g hl0; omega) (by rw [← hgc, Nat.gcd_comm g l, Nat.gcd_rec l g, Nat.gcd_comm]) (Or.inl hl0) (fun z => Nat.le_of_lt (Nat.mod_lt g hl0)) (zcd_step hg hl hl0 hle hpr) (by omega)) [0, 1, 2, 4, 5] (by rw [pk_lRem (by omega) hl0 (by omega)]; rfl) rfl
  exact z_to (loop9 _ 0 a b (by omega) ha hb rfl (Or.inr rfl) (fun z => by omega) (by
      have h1 : a * b ≤ 4611686018427387904 * 4611686018427387904 := Nat.mul_le_mul (by omega) (by omega)
      have h2 : (4611686018427387904 * 4611686018427387904 : Nat) < 2 ^ 126 := by decide
      omega) (Nat.lt_succ_self _)) [0, 1, 2, 3, 4] rfl rfl
theorem zabs64 {a : Int} (h : zrg a) : (if 0 < Int64.ofInt a then Int64.ofInt a else -Int64.ofInt a) = lN a.natAbs := by
  rw [zlN_ofInt]
  have e := zlt64 (a := 0) (b := a) ⟨by decide, by decide⟩ h
  have e0 : Int64.ofInt 0 = 0 := by decide +kernel
  rw [e0] at e
  by_cases q : 0 < a
  · rw [if_pos (e.mpr q)]
    congr 1
    omega
  · rw [if_neg (fun z => q (e.mp z)), zI64_neg]
    congr 1
    omega
theorem zgcd_dvd {a : Int} {b : Nat} : (Nat.gcd a.natAbs b : Int) ∣ a := Int.ofNat_dvd_left.mpr (Nat.gcd_dvd_left _ _)
theorem ztold_div {a : Int} {g : Nat} (hg : 0 < g) (hd : (g : Int) ∣ a) (ha : zrg a) (hg2 : g < 4611686018427387904) : Int64.ofInt a / lN g = Int64.ofInt (a / (g : Int)) := by
  rw [zlN_ofInt]
  have e : a / (g : Int) * (g : Int) = a := Int.ediv_mul_cancel hd
  have h := zdivx (x := a / (g : Int)) (D := (g : Int)) (by omega) (by rw [e]; exact ha) ⟨by omega, by omega⟩
  rw [e] at h
  exact h
set_option maxHeartbeats 4000000 in
set_option maxRecDepth 100000 in
theorem k_X5_told {E : zE} (hI : zI E) (M : zM) (a : Int) (b : Nat) (up : Bool) (ha : zrg a) (hb0 : 0 < b) (hb : b < 4611686018427387904) : zK E yX5_told (.code yX5_told cX5_told 7 (some .long)) (zrm 1 30) [.long (Int64.ofInt a), .long (lN b), .int (zdr up)] M (zpl (fun v M2 => v = Int64.ofInt (zTold a b up) ∧ M2 = M)) := by
  refine zK_of hI (by decide) (Nat.le_of_ble_eq_true rfl) (fun x hx ri rz rl rv => ?_)
  show zJ E x 0 [(0, .long (Int64.ofInt a)), (2, .long (lN b)), (4, .int (zdr up))] [] M
  have hgp : 0 < Nat.gcd a.natAbs b := Nat.gcd_pos_of_pos_right _ hb0
  have hg2 : Nat.gcd a.natAbs b < 4611686018427387904 := Nat.lt_of_le_of_lt (Nat.gcd_le_right _ hb0) hb
  have hg0 : ¬ lN (Nat.gcd a.natAbs b) = 0 := fun z => by have z2 := (pk_lEQ (b := 0) (by omega) (by decide)).mp (z.trans (by decide +kernel)); omega
  refine z_lload_n hx 0 dX5_told_0 rfl rfl ?_
  refine z_abs hx zw_416 (by decide) (Nat.le_of_ble_eq_true rfl) dX5_told_1 ?_
  refine z_eql (b := lN a.natAbs) (zabs64 ha) ?_
  refine z_lload_n hx 1 dX5_told_4 rfl rfl ?_
  refine z_callS hx (As := [.long (lN a.natAbs), .long (lN b)]) (st := []) (k_X5_commonDivisor hI M a.natAbs b (by have := ha.1; have := ha.2; omega) hb) zw_419 zy_X5_commonDivisor ⟨rfl, rfl⟩ (by decide) rfl rfl (Nat.le_of_ble_eq_true rfl) dX5_told_5 ?_
  rintro _ M5 ⟨v5, rfl, q5⟩
  obtain ⟨rfl, q5⟩ := q5
  rw [q5]
  show zJ E x 8 _ [.long (lN (Nat.gcd a.natAbs b))] _
  refine z_lstore hx (lv2 := [(5, .long (lN (Nat.gcd a.natAbs b))), (0, .long (Int64.ofInt a)), (2, .long (lN b)), (4, .int (zdr up))]) dX5_told_8 (by decide) rfl ?_
  refine z_lload hx 0 dX5_told_10 rfl ?_
  refine z_lconst hx (v := 0) dX5_told_12 rfl ?_
  refine z_lcmp hx dX5_told_13 ?_
  refine z_if_ne (tgt := 19) hx dX5_told_14 (by decide) (fun h14 => ?_) (fun h14 => ?_)
  · skip
    refine z_iload hx 3 dX5_told_19 rfl ?_
    refine z_if_eq_d (tgt := 28) hx dX5_told_21 (by decide) (fun h21 => ?_) (fun h21 => ?_)
    · skip
      refine z_lload_n hx 2 dX5_told_28 rfl rfl ?_
      refine z_lload hx 0 dX5_told_29 rfl ?_
      refine z_ldiv hx dX5_told_31 hg0 ?_
      exact rl _ _ _ _ rfl ⟨_, rfl, ⟨by rw [zTold, if_neg (by rw [h21]; decide), zlN_ofInt b, ztold_div hgp (Int.natCast_dvd_natCast.mpr (Nat.gcd_dvd_right _ _)) ⟨by omega, by omega⟩ hg2], rfl⟩⟩ dX5_told_32
    · skip
      refine z_lload_n hx 1 dX5_told_24 rfl rfl ?_
      refine z_goto (tgt := 29) hx dX5_told_25 (by decide) ?_
      refine z_lload hx 0 dX5_told_29 rfl ?_
      refine z_ldiv hx dX5_told_31 hg0 ?_
      exact rl _ _ _ _ rfl ⟨_, rfl, ⟨by rw [zTold, if_pos h21, ztold_div hgp zgcd_dvd ha hg2], rfl⟩⟩ dX5_told_32
  · skip
    refine z_lconst hx (v := 0) dX5_told_17 rfl ?_
    exact rl _ _ _ _ rfl ⟨_, rfl, (absurd (zcmp0 h14) hg0)⟩ dX5_told_18
