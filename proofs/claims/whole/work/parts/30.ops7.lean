def zjr (R k : Nat) : Nat → zRo → Int32
  | 0, _ => -9
  | q + 1, r => match zdo r (R / 10000 ^ q % 10000) with
    | none => nI (k - (q + 1))
    | some r2 => zjr R k q r2
def zop_judge (r : zRo) (n : Int32) (row : Int64) : Int32 := if n < nI 1 ∨ nI 4 < n ∨ row < 0 then -2 else if 10000 ≤ row.toInt.toNat / 10000 ^ (n.toNatClampNeg - 1) then -2 else zjr row.toInt.toNat n.toNatClampNeg n.toNatClampNeg r
theorem zr14 {x : Int32} (h1 : ¬ x < nI 1) (h2 : ¬ nI 4 < x) : ∃ k, 1 ≤ k ∧ k ≤ 4 ∧ x = nI k := by
  have a := Int32.not_lt.mp h1
  have b := Int32.not_lt.mp h2
  have a2 := Int32.le_iff_toInt_le.mp a
  have b2 := Int32.le_iff_toInt_le.mp b
  rw [nI_toInt (by decide)] at a2 b2
  obtain ⟨k, hk, rfl⟩ := nI_of (x := x) (fun z => by
    have z2 := Int32.lt_iff_toInt_lt.mp z
    rw [Int32.toInt_zero] at z2
    omega)
  rw [nI_toInt hk] at a2 b2
  exact ⟨k, by omega, by omega, rfl⟩
theorem zlN_toNat {R : Nat} (h : R < 2 ^ 63) : (lN R).toInt.toNat = R := by rw [pk_lT h]; rfl
def zun (q : Nat) : Nat := if q = 0 then 0 else 10000 ^ (q - 1)
theorem z10k {q : Nat} (h : q ≤ 3) : 1 ≤ 10000 ^ q ∧ 10000 ^ q ≤ 1000000000000 := by
  rcases (show q = 0 ∨ q = 1 ∨ q = 2 ∨ q = 3 by omega) with rfl | rfl | rfl | rfl <;> decide
theorem zrem10k {a : Nat} (h : a < 2 ^ 63) : (lN a - lN a / 10000 * 10000).toInt32 = nI (a % 10000) := by
  have e : (10000 : Int64) = lN 10000 := by decide +kernel
  rw [e, pk_lRem h (by decide) (by decide), lN_i]
theorem zun_div {q : Nat} (h : q ≤ 3) : lN (10000 ^ q) / 10000 = lN (zun q) := by
  have e : (10000 : Int64) = lN 10000 := by decide +kernel
  rw [e]
  rcases (show q = 0 ∨ q = 1 ∨ q = 2 ∨ q = 3 by omega) with rfl | rfl | rfl | rfl <;> decide +kernel
set_option maxHeartbeats 4000000 in
set_option maxRecDepth 100000 in
theorem k_X5_judge {E : zE} (hI : zI E) (M : zM) {σ : zSt} (hσ : zCs M σ) (hth : zTheory) (n0 : Int32) (row : Int64) : zK E yX5_judge (.code yX5_judge cX5_judge 7 (some .int)) (zrm 6 152) [.ref (E.2.2.2 0), .int n0, .long row] M (zpi (fun v M2 => v = zop_judge σ.2.2.1 n0 row ∧ zCs M2 σ ∧ zfC M M2)) := by
  refine zK_of hI (by decide) (Nat.le_of_ble_eq_true rfl) (fun x hx ri rz rl rv => ?_)
  show zJ E x 0 [(0, .ref (E.2.2.2 0)), (1, .int n0), (2, .long row)] [] M
  obtain ⟨tx, len, ⟨w, n, mm, cd, rd⟩, as, s, sl, sd⟩ := σ
  have hσ2 := hσ
  obtain ⟨hT, hH, hA, hS, hD, hO⟩ := hσ
  have hR : zRm M 46 w n mm cd rd := hH
  have hTx : zTx M tx len := hT
  have hn8 := hR.2.2.2.2.2.1
  have hw4 := hR.2.1
  have hlen := hTx.2.1
  have hsd : M.2 0 8 = sd := hD
  obtain ⟨o, ho14, ho, hs, hs14, has⟩ := id hA
  have hs : M.1 4 2 = nI s := hs
  have hs14 : s ≤ 14 := hs14
  refine z_iload_n hx 1 dX5_judge_0 rfl rfl ?_
  refine z_iconst hx (v := nI 1) dX5_judge_1 (by decide +kernel) ?_
  refine z_icmp_lt (tgt := 16) hx dX5_judge_2 (by decide) (fun h2 => ?_) (fun h2 => ?_)
  · skip
    refine z_bipush hx (v := (-2)) dX5_judge_16 rfl ?_
    exact ri _ _ _ _ rfl ⟨_, rfl, ⟨by rw [zop_judge]; first | rw [if_pos (Or.inl h2)] | rw [if_pos (Or.inr (Or.inl h7))] | rw [if_pos (Or.inr (Or.inr hneg))] | rw [if_neg hok, if_pos (by rw [zlN_toNat hR63, nI_clamp (by omega)]; exact hbig)], hσ2, zfr_rf _ _⟩⟩ dX5_judge_18
  · skip
    refine z_iload_n hx 1 dX5_judge_5 rfl rfl ?_
    refine z_iconst hx (v := nI 4) dX5_judge_6 (by decide +kernel) ?_
    refine z_icmp_gt (tgt := 16) hx dX5_judge_7 (by decide) (fun h7 => ?_) (fun h7 => ?_)
    · skip
      refine z_bipush hx (v := (-2)) dX5_judge_16 rfl ?_
      exact ri _ _ _ _ rfl ⟨_, rfl, ⟨by rw [zop_judge]; first | rw [if_pos (Or.inl h2)] | rw [if_pos (Or.inr (Or.inl h7))] | rw [if_pos (Or.inr (Or.inr hneg))] | rw [if_neg hok, if_pos (by rw [zlN_toNat hR63, nI_clamp (by omega)]; exact hbig)], hσ2, zfr_rf _ _⟩⟩ dX5_judge_18
    · skip
      refine z_lload_n hx 2 dX5_judge_10 rfl rfl ?_
      refine z_lconst hx (v := 0) dX5_judge_11 rfl ?_
      refine z_lcmp hx dX5_judge_12 ?_
      refine z_if_ge (tgt := 19) hx dX5_judge_13 (by decide) (fun h13 => ?_) (fun h13 => ?_)
      · skip
        obtain ⟨k, hk1, hk4, rfl⟩ := zr14 h2 h7
        have hrow : ¬ row < 0 := Int64.not_lt.mpr ((lg_cmp_ge _ _).mp h13)
        obtain ⟨R, hR63, rfl⟩ := pk_lOf hrow
        have hok : ¬ (nI k < nI 1 ∨ nI 4 < nI k ∨ lN R < 0) := by rintro (z | z | z); exact h2 z; exact h7 z; exact hrow z
        refine z_lconst hx (v := 1) dX5_judge_19 rfl ?_
        refine z_lstore hx (lv2 := [(4, .long 1), (0, .ref (E.2.2.2 0)), (1, .int (nI k)), (2, .long (lN R))]) dX5_judge_20 (by decide) rfl ?_
        refine z_iconst hx (v := nI 1) dX5_judge_22 (by decide +kernel) ?_
        refine z_istore hx (lv2 := [(6, .int (nI 1)), (4, .long 1), (0, .ref (E.2.2.2 0)), (1, .int (nI k)), (2, .long (lN R))]) dX5_judge_23 (by decide) rfl ?_
        have loop25 : ∀ (fuel25 : Nat) (p : Nat) (_ : 1 ≤ p) (_ : p ≤ k), k - p < fuel25 → zJ E x 25 [(6, .int (nI p)), (4, .long (lN (10000 ^ (p - 1)))), (0, .ref (E.2.2.2 0)), (1, .int (nI k)), (2, .long (lN R))] [] M := by
          intro fuel25
          induction fuel25 with
          | zero =>
            intros; omega
          | succ fuel25 ih25 =>
            intro p hp1 hp hfuel25
            refine z_iload hx 0 dX5_judge_25 rfl ?_
            refine z_iload_n hx 3 dX5_judge_27 rfl rfl ?_
            refine z_icmp_ge_n (tgt := 45) hx (by omega) (by omega) dX5_judge_28 (by decide) (fun h28 => ?_) (fun h28 => ?_)
            · skip
              refine z_lload_n hx 4 dX5_judge_45 rfl rfl ?_
              refine z_lload hx 1 dX5_judge_46 rfl ?_
              refine z_ldiv hx dX5_judge_48 (fun z => by have z2 := (pk_lEQ (b := 0) (by have := (z10k (q := p - 1) (by omega)).2; omega) (by decide)).mp (z.trans (by decide +kernel)); have := (z10k (q := p - 1) (by omega)).1; omega) ?_
              have hz1 := z10k (q := p - 1) (by omega)
              refine z_eql (b := lN (R / 10000 ^ (p - 1))) (pk_lDiv hR63 (by omega) (by omega)) ?_
              have hdle := Nat.div_le_self R (10000 ^ (p - 1))
              refine z_ldc2 hx zw_505 dX5_judge_49 ?_
              refine z_lcmp hx dX5_judge_52 ?_
              refine z_if_lt (tgt := 59) hx dX5_judge_53 (by decide) (fun h53 => ?_) (fun h53 => ?_)
              · skip
                have hsm : R / 10000 ^ (k - 1) < 10000 := by
                  have z := (lg_cmp_lt _ _).mp h53
                  have z2 := (pk_lLT (a := R / 10000 ^ (p - 1)) (b := 10000) (by omega) (by decide)).mp (by rw [show lN 10000 = 10000 by decide +kernel]; exact z)
                  rw [← show p = k by omega]; exact z2
                refine z_aload_n hx 2 dX5_judge_59 rfl rfl ?_
                refine zg_X5_2 hx zw_176 dX5_judge_60 ?_
                refine z_aload_n hx 2 dX5_judge_63 rfl rfl ?_
                refine zg_X5_1 hx zw_175 dX5_judge_64 ?_
                refine z_callV hx (As := [.ref (E.2.2.2 46)]) (st := []) (k_X3_copy hI M (a := 49) (b := 46) zRoom_49 zRoom_46 (by omega)) zw_460 zy_X3_copy ⟨rfl, rfl⟩ (by decide) (zOB_room zRoom_49 E) rfl rfl rfl rfl (Nat.le_of_ble_eq_true rfl) dX5_judge_67 ?_
                rintro _ M67 ⟨rfl, q67⟩
                show zJ E x 70 _ [] _
                refine z_iconst hx (v := nI 0) dX5_judge_70 (by decide +kernel) ?_
                refine z_istore hx (lv2 := [(6, .int (nI 0)), (4, .long (lN (10000 ^ (p - 1)))), (0, .ref (E.2.2.2 0)), (1, .int (nI k)), (2, .long (lN R))]) dX5_judge_71 (by decide) rfl ?_
                have loop73 : ∀ (fuel73 : Nat) (p q : Nat) (r1 : zRo) (N : zM) (_ : p + q = k) (_ : zfr (fun c => c = 7 ∨ c = 10 ∨ c = 13 ∨ 15 ≤ c ∧ c ≤ 31 ∨ 49 ≤ c ∧ c ≤ 51) M N) (_ : zHr N 49 r1) (_ : zjr R k q r1 = zjr R k k (w, n, mm, cd, rd)), k - p < fuel73 → zJ E x 73 [(6, .int (nI p)), (4, .long (lN (zun q))), (0, .ref (E.2.2.2 0)), (1, .int (nI k)), (2, .long (lN R))] [] N := by
                  intro fuel73
                  induction fuel73 with
                  | zero =>
                    intros; omega
                  | succ fuel73 ih73 =>
                    intro p q r1 N hpq hNf hNr hNj hfuel73
                    refine z_iload hx 0 dX5_judge_73 rfl ?_
                    refine z_iload_n hx 3 dX5_judge_75 rfl rfl ?_
                    refine z_icmp_ge_n (tgt := 119) hx (by omega) (by omega) dX5_judge_76 (by decide) (fun h76 => ?_) (fun h76 => ?_)
                    · skip
                      refine z_bipush hx (v := (-9)) dX5_judge_119 rfl ?_
                      exact ri _ _ _ _ rfl ⟨_, rfl, ⟨by rw [zop_judge, if_neg hok, if_neg (by rw [zlN_toNat hR63, nI_clamp (by omega)]; omega), zlN_toNat hR63, nI_clamp (by omega), ← hNj, show q = 0 by omega]; rfl, zCs_scr hσ2 (zfr_w hNf (fun c h => by omega))⟩⟩ dX5_judge_121
                    · skip
                      obtain ⟨q, rfl⟩ : ∃ q1, q = q1 + 1 := ⟨q - 1, by omega⟩
                      refine z_lload hx 1 dX5_judge_79 rfl ?_
                      refine z_lconst hx (v := 0) dX5_judge_81 rfl ?_
                      refine z_lcmp hx dX5_judge_82 ?_
                      refine z_if_le (tgt := 119) hx dX5_judge_83 (by decide) (fun h83 => ?_) (fun h83 => ?_)
                      · skip
                        exact absurd ((lg_cmp_le _ _).mp h83) (fun z => by have z2 := (pk_lLE (b := 0) (by have := (z10k (q := q) (by omega)).2; show 10000 ^ q < _; omega) (by decide)).mp (Int64.le_trans z (by decide +kernel)); have := (z10k (q := q) (by omega)).1; have e : zun (q + 1) = 10000 ^ q := rfl; omega)
                      · skip
                        refine z_aload_n hx 2 dX5_judge_86 rfl rfl ?_
                        refine z_lload_n hx 4 dX5_judge_87 rfl rfl ?_
                        refine z_lload hx 1 dX5_judge_88 rfl ?_
                        refine z_ldiv hx dX5_judge_90 (fun z => by have z2 := (pk_lEQ (a := zun (q + 1)) (b := 0) (by have := (z10k (q := q) (by omega)).2; show 10000 ^ q < _; omega) (by decide)).mp (z.trans (by decide +kernel)); have := (z10k (q := q) (by omega)).1; have e : zun (q + 1) = 10000 ^ q := rfl; omega) ?_
                        have hz1 := z10k (q := q) (by omega)
                        refine z_eql (b := lN (R / 10000 ^ q)) (pk_lDiv (b := 10000 ^ q) hR63 (by omega) (by omega)) ?_
                        have hdle := Nat.div_le_self R (10000 ^ q)
                        refine z_ldc2 hx zw_505 dX5_judge_91 ?_
                        refine z_lrem hx dX5_judge_94 (by decide +kernel) ?_
                        refine z_l2i hx dX5_judge_95 ?_
                        refine z_eqi (b := nI (R / 10000 ^ q % 10000)) (zrem10k (by omega)) ?_
                        refine z_callV hx (As := [.int (nI (R / 10000 ^ q % 10000))]) (st := []) (k_X5_holds hI hth N hNr (R / 10000 ^ q % 10000) (Nat.mod_lt _ (by decide))) zw_506 zy_X5_holds ⟨rfl, rfl⟩ (by decide) (zOB_X5 E) rfl rfl rfl rfl (Nat.le_of_ble_eq_true rfl) dX5_judge_96 ?_
                        rintro _ M96 ⟨v96, rfl, q96⟩
                        obtain ⟨q96, q96f⟩ := q96
                        rcases q96 with ⟨r2, q96a, rfl, q96⟩ | ⟨q96a, rfl⟩
                        · skip
                          show zJ E x 99 _ [.int (nI 1)] _
                          refine z_if_ne_n (tgt := 105) hx (by decide) dX5_judge_99 (by decide) (fun _ => ?_) (fun h => absurd h (by decide))
                          refine z_lload hx 1 dX5_judge_105 rfl ?_
                          refine z_ldc2 hx zw_505 dX5_judge_107 ?_
                          refine z_ldiv hx dX5_judge_110 (by decide +kernel) ?_
                          refine z_lstore hx (lv2 := [(4, .long ((lN (zun (q + 1))) / (10000))), (6, .int (nI p)), (0, .ref (E.2.2.2 0)), (1, .int (nI k)), (2, .long (lN R))]) dX5_judge_111 (by decide) rfl ?_
                          refine z_iinc hx (w := nI (p + 1)) (lv2 := [(6, .int (nI (p + 1))), (4, .long ((lN (zun (q + 1))) / (10000))), (0, .ref (E.2.2.2 0)), (1, .int (nI k)), (2, .long (lN R))]) 1 dX5_judge_113 rfl (z_inc _) (by decide) rfl ?_
                          refine z_goto (tgt := 73) hx dX5_judge_116 (by decide) ?_
                          exact z_to (ih73 (p + 1) q r2 M96 (by omega) (zfr_tr hNf q96f) q96 (by rw [← hNj, zjr, q96a]) (by omega)) [0, 1, 2, 3, 4] (by rw [show lN (zun (q + 1)) / 10000 = lN (zun q) by rw [show zun (q + 1) = 10000 ^ q from rfl]; exact zun_div (by omega)]; rfl) rfl
                        · skip
                          show zJ E x 99 _ [.int (nI 0)] _
                          refine z_if_ne_n (tgt := 105) hx (by decide) dX5_judge_99 (by decide) (fun h => absurd h (by decide)) (fun _ => ?_)
                          refine z_iload hx 0 dX5_judge_102 rfl ?_
                          exact ri _ _ _ _ rfl ⟨_, rfl, ⟨by rw [zop_judge, if_neg hok, if_neg (by rw [zlN_toNat hR63, nI_clamp (by omega)]; omega), zlN_toNat hR63, nI_clamp (by omega), ← hNj, zjr, q96a, show k - (q + 1) = p by omega], zCs_scr hσ2 (zfr_tr (zfr_w hNf (fun c h => by omega)) (zfr_w q96f (fun c h => by omega)))⟩⟩ dX5_judge_104
                exact z_to (loop73 _ 0 k (w, n, mm, cd, rd) M67 (by omega) (zfr_w q67.2.2 (fun c h => by omega)) (zHr_eq ⟨q67.1, q67.2.1⟩ hH) rfl (Nat.lt_succ_self _)) [0, 1, 2, 3, 4] (by rw [show zun k = 10000 ^ (p - 1) by unfold zun; rw [if_neg (by omega), show p = k by omega]]; rfl) rfl
              · skip
                have hbig : 10000 ≤ R / 10000 ^ (k - 1) := by
                  have z : ¬ lN (R / 10000 ^ (p - 1)) < 10000 := fun z => h53 ((lg_cmp_lt _ _).mpr z)
                  rw [← show p = k by omega]
                  exact Nat.not_lt.mp (fun z2 => z (by rw [show (10000 : Int64) = lN 10000 by decide +kernel]; exact (pk_lLT (by omega) (by decide)).mpr z2))
                refine z_bipush hx (v := (-2)) dX5_judge_56 rfl ?_
                exact ri _ _ _ _ rfl ⟨_, rfl, ⟨by rw [zop_judge]; first | rw [if_pos (Or.inl h2)] | rw [if_pos (Or.inr (Or.inl h7))] | rw [if_pos (Or.inr (Or.inr hneg))] | rw [if_neg hok, if_pos (by rw [zlN_toNat hR63, nI_clamp (by omega)]; exact hbig)], hσ2, zfr_rf _ _⟩⟩ dX5_judge_58
            · skip
              refine z_lload hx 1 dX5_judge_31 rfl ?_
              refine z_ldc2 hx zw_505 dX5_judge_33 ?_
              refine z_lmul hx dX5_judge_36 ?_
              refine z_lstore hx (lv2 := [(4, .long ((lN (10000 ^ (p - 1))) * (10000))), (6, .int (nI p)), (0, .ref (E.2.2.2 0)), (1, .int (nI k)), (2, .long (lN R))]) dX5_judge_37 (by decide) rfl ?_
              refine z_iinc hx (w := nI (p + 1)) (lv2 := [(6, .int (nI (p + 1))), (4, .long ((lN (10000 ^ (p - 1))) * (10000))), (0, .ref (E.2.2.2 0)), (1, .int (nI k)), (2, .long (lN R))]) 1 dX5_judge_39 rfl (z_inc _) (by decide) rfl ?_
              refine z_goto (tgt := 25) hx dX5_judge_42 (by decide) ?_
              exact z_to (ih25 (p + 1) (by omega) (by omega) (by omega)) [0, 1, 2, 3, 4] (by rw [show lN (10000 ^ (p - 1)) * 10000 = lN (10000 ^ (p + 1 - 1)) by rw [show (10000 : Int64) = lN 10000 by decide +kernel, lN_mul, ← Nat.pow_succ, show (p - 1).succ = p + 1 - 1 by omega]]; rfl) rfl
        exact z_to (loop25 _ 1 (by omega) (by omega) (Nat.lt_succ_self _)) [0, 1, 2, 3, 4] (by rw [show lN (10000 ^ (1 - 1)) = 1 by decide +kernel]; rfl) rfl
      · skip
        have hneg : row < 0 := Int64.not_le.mp (fun z => h13 ((lg_cmp_ge _ _).mpr z))
        refine z_bipush hx (v := (-2)) dX5_judge_16 rfl ?_
        exact ri _ _ _ _ rfl ⟨_, rfl, ⟨by rw [zop_judge]; first | rw [if_pos (Or.inl h2)] | rw [if_pos (Or.inr (Or.inl h7))] | rw [if_pos (Or.inr (Or.inr hneg))] | rw [if_neg hok, if_pos (by rw [zlN_toNat hR63, nI_clamp (by omega)]; exact hbig)], hσ2, zfr_rf _ _⟩⟩ dX5_judge_18
