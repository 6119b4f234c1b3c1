/-- the rank of a set of weighings -/
def zrk (r : zRo) (d : Bool) (s : Nat) : Nat := (zbs (zunk r.1 d) (fun t => zLn r.1 r.2.2.1 d (r.2.2.2.1 t) (r.2.2.2.2 t) t) s).1
theorem zpop_le : ∀ k, k < 256 → ∀ n, n < 9 → k < 2 ^ n → zpop k ≤ n := by decide +kernel
/-- over the first k sets: by how many chances all is known -/
def zlst (r : zRo) (d : Bool) (j : Nat) : Nat → Nat
  | 0 => 0
  | k + 1 => zlst r d j k + (if zrk r d k = zunk r.1 d then (10 - j) ^ zpop k * j ^ (r.2.1 - zpop k) else 0)
theorem zpw_le {j p m : Nat} (hj : j ≤ 10) (hp : p ≤ m) : (10 - j) ^ p ≤ 10 ^ m ∧ j ^ (m - p) ≤ 10 ^ m ∧ (10 - j) ^ p * j ^ (m - p) ≤ 10 ^ m := by
  have h1 : (10 - j) ^ p ≤ 10 ^ p := Nat.pow_le_pow_left (by omega) p
  have h2 : j ^ (m - p) ≤ 10 ^ (m - p) := Nat.pow_le_pow_left hj _
  have h3 : 10 ^ p * 10 ^ (m - p) = 10 ^ m := by rw [← Nat.pow_add]; congr 1; omega
  exact ⟨Nat.le_trans h1 (Nat.pow_le_pow_right (by decide) hp), Nat.le_trans h2 (Nat.pow_le_pow_right (by decide) (by omega)), by rw [← h3]; exact Nat.mul_le_mul h1 h2⟩
theorem zp10 {n : Nat} (h : n ≤ 8) : 1 ≤ 10 ^ n ∧ 10 ^ n ≤ 100000000 := by
  rcases (show n = 0 ∨ n = 1 ∨ n = 2 ∨ n = 3 ∨ n = 4 ∨ n = 5 ∨ n = 6 ∨ n = 7 ∨ n = 8 by omega) with rfl | rfl | rfl | rfl | rfl | rfl | rfl | rfl | rfl <;> decide
theorem zlst_le {r : zRo} {d : Bool} {j : Nat} (hj : j ≤ 10) (hn : r.2.1 ≤ 8) : ∀ k, k ≤ 2 ^ r.2.1 → zlst r d j k ≤ k * 100000000
  | 0, _ => Nat.zero_le _
  | k + 1, hk => by
    have h1 := zlst_le (d := d) hj hn k (by omega)
    have h2 := (zp2 hn).2
    have h3 := (zpw_le hj (zpop_le k (by omega) r.2.1 (by omega) (by omega))).2.2
    have h4 := (zp10 hn).2
    show zlst r d j k + (if _ then (10 - j) ^ zpop k * j ^ (r.2.1 - zpop k) else 0) ≤ (k + 1) * 100000000
    split
    · calc zlst r d j k + (10 - j) ^ zpop k * j ^ (r.2.1 - zpop k) ≤ k * 100000000 + 100000000 := Nat.add_le_add h1 (Nat.le_trans h3 h4)
        _ = (k + 1) * 100000000 := by rw [Nat.add_mul, Nat.one_mul]
    · calc zlst r d j k + 0 ≤ k * 100000000 + 0 := Nat.add_le_add h1 (Nat.le_refl _)
        _ ≤ (k + 1) * 100000000 := by rw [Nat.add_mul, Nat.one_mul]; omega
def zop_lost (r : zRo) (t : Int32) (d up : Bool) : Int32 := if t < 0 ∨ ¬ t ≤ nI 10 then -2 else (Int64.ofInt (zTold (zlst r d t.toNatClampNeg (2 ^ r.2.1) : Nat) (10 ^ r.2.1) up)).toInt32
theorem z_stl {E : zE} {x : zX} {pc : Nat} {lv : List (Nat × Value)} {st : List Value} {M : zM} {s1 : Value} {a : Int64} (b : Int64) (h : a = b) (k : zJ E x pc lv (s1 :: .long b :: st) M) : zJ E x pc lv (s1 :: .long a :: st) M := by rw [h]; exact k
set_option maxHeartbeats 4000000 in
set_option maxRecDepth 100000 in
theorem k_X5_lost {E : zE} (hI : zI E) (M : zM) {σ : zSt} (hσ : zCs M σ) (t : Int32) (d up : Bool) : zK E yX5_lost (.code yX5_lost cX5_lost 10 (some .int)) (zrm 4 98) [.ref (E.2.2.2 0), .int t, .int (zdr d), .int (zdr up)] M (zpi (fun v M2 => v = zop_lost σ.2.2.1 t d up ∧ zCs M2 σ ∧ zfC M M2)) := by
  refine zK_of hI (by decide) (Nat.le_of_ble_eq_true rfl) (fun x hx ri rz rl rv => ?_)
  show zJ E x 0 [(0, .ref (E.2.2.2 0)), (1, .int t), (2, .int (zdr d)), (3, .int (zdr up))] [] M
  obtain ⟨tx, len, ⟨w, n, mm, cd, rd⟩, as, s, sl, sd⟩ := σ
  have hσ2 := hσ
  obtain ⟨hT, hH, hA, hS, hD, hO⟩ := hσ
  have hR : zRm M 46 w n mm cd rd := hH
  have hTx : zTx M tx len := hT
  have hn8 := hR.2.2.2.2.2.1
  have hw4 := hR.2.1
  have hlen := hTx.2.1
  have hsd : M.2 0 8 = sd := hD
  obtain ⟨o, ho14, ho, hs, hs14, has⟩ := id hA
  have hs : M.1 4 2 = nI s := hs
  have hs14 : s ≤ 14 := hs14
  have hp := zp2 hn8
  have hp10 := zp10 hn8
  have hu := zunk_le hw4.2 d
  refine z_iload_n hx 1 dX5_lost_0 rfl rfl ?_
  refine z_if_lt (tgt := 10) hx dX5_lost_1 (by decide) (fun h1 => ?_) (fun h1 => ?_)
  · skip
    refine z_bipush hx (v := (-2)) dX5_lost_10 rfl ?_
    exact ri _ _ _ _ rfl ⟨_, rfl, ⟨by rw [zop_lost, if_pos (by first | exact Or.inl h1 | exact Or.inr h7)], hσ2, zfr_rf _ _⟩⟩ dX5_lost_12
  · skip
    refine z_iload_n hx 1 dX5_lost_4 rfl rfl ?_
    refine z_bipush hx (v := nI 10) dX5_lost_5 (by decide +kernel) ?_
    refine z_icmp_le (tgt := 13) hx dX5_lost_7 (by decide) (fun h7 => ?_) (fun h7 => ?_)
    · skip
      obtain ⟨j, hj, rfl⟩ := zle_nI (by decide) h1 h7
      refine z_aload_n hx 0 dX5_lost_13 rfl rfl ?_
      refine zg_X5_7 hx zw_181 dX5_lost_14 ?_
      refine z_aload_n hx 0 dX5_lost_17 rfl rfl ?_
      refine zg_X5_1 hx zw_175 dX5_lost_18 ?_
      refine z_iload_n hx 2 dX5_lost_21 rfl rfl ?_
      refine z_callV hx (As := [.ref (E.2.2.2 46), .int (zdr d)]) (st := []) (k_X2_ofEach hI M zRoom_46 hR d) zw_526 zy_X2_ofEach ⟨rfl, rfl⟩ (by decide) (zOB_X2 E) rfl rfl rfl rfl (Nat.le_of_ble_eq_true rfl) dX5_lost_22 ?_
      rintro _ M22 ⟨rfl, q22⟩
      show zJ E x 25 _ [] _
      have hok : ∀ k, k < 2 ^ n → zrk (w, n, mm, cd, rd) d k ≤ zunk w d := fun k hk => (zbs_ok (cols := zunk w d) (vs := fun t => zLn w mm d (cd t) (rd t) t) hn8 (fun t ht => zLn_ab (t := t) (hR.2.2.2.2.2.2 t ht).2.2.1 (by omega)) k k (Nat.le_refl _) hk).1
      refine z_aload_n hx 0 dX5_lost_25 rfl rfl ?_
      refine zg_X5_1 hx zw_175 dX5_lost_26 ?_
      refine zg_X3_2 hx zRoom_46 zw_86 dX5_lost_29 ?_
      refine z_eqi (b := nI n) (by rw [(q22.2 46 (by omega)).1]; exact hR.2.2.2.2.1) ?_
      refine z_istore hx (lv2 := [(4, .int (nI n)), (0, .ref (E.2.2.2 0)), (1, .int (nI j)), (2, .int (zdr d)), (3, .int (zdr up))]) dX5_lost_32 (by decide) rfl ?_
      refine z_aload_n hx 1 dX5_lost_34 rfl rfl ?_
      refine zg_X5_1 hx zw_175 dX5_lost_35 ?_
      refine z_iload_n hx 3 dX5_lost_38 rfl rfl ?_
      refine z_callV hx (As := [.int (zdr d)]) (st := []) (k_X3_unknowns hI M22 (w := w) zRoom_46 (by rw [(q22.2 46 (by omega)).1]; exact hR.1) d) zw_543 zy_X3_unknowns ⟨rfl, rfl⟩ (by decide) (zOB_room zRoom_46 E) rfl rfl rfl rfl (Nat.le_of_ble_eq_true rfl) dX5_lost_39 ?_
      rintro _ M39 ⟨v39, rfl, q39⟩
      obtain ⟨rfl, q39⟩ := q39
      rw [q39]
      show zJ E x 42 _ [.int (nI (zunk w d))] _
      refine z_istore hx (lv2 := [(5, .int (nI (zunk w d))), (4, .int (nI n)), (0, .ref (E.2.2.2 0)), (1, .int (nI j)), (2, .int (zdr d)), (3, .int (zdr up))]) dX5_lost_42 (by decide) rfl ?_
      refine z_lconst hx (v := 0) dX5_lost_44 rfl ?_
      refine z_lstore hx (lv2 := [(6, .long 0), (5, .int (nI (zunk w d))), (4, .int (nI n)), (0, .ref (E.2.2.2 0)), (1, .int (nI j)), (2, .int (zdr d)), (3, .int (zdr up))]) dX5_lost_45 (by decide) rfl ?_
      refine z_iconst hx (v := nI 0) dX5_lost_47 (by decide +kernel) ?_
      refine z_istore hx (lv2 := [(8, .int (nI 0)), (6, .long 0), (5, .int (nI (zunk w d))), (4, .int (nI n)), (0, .ref (E.2.2.2 0)), (1, .int (nI j)), (2, .int (zdr d)), (3, .int (zdr up))]) dX5_lost_48 (by decide) rfl ?_
      have loop50 : ∀ (fuel50 : Nat) (k : Nat) (_ : k ≤ 2 ^ n), 2 ^ n - k < fuel50 → zJ E x 50 [(8, .int (nI k)), (6, .long (lN (zlst (w, n, mm, cd, rd) d j k))), (5, .int (nI (zunk w d))), (4, .int (nI n)), (0, .ref (E.2.2.2 0)), (1, .int (nI j)), (2, .int (zdr d)), (3, .int (zdr up))] [] M22 := by
        intro fuel50
        induction fuel50 with
        | zero =>
          intros; omega
        | succ fuel50 ih50 =>
          intro k hk hfuel50
          refine z_iload hx 0 dX5_lost_50 rfl ?_
          refine z_iconst hx (v := nI 1) dX5_lost_52 (by decide +kernel) ?_
          refine z_iload hx 3 dX5_lost_53 rfl ?_
          refine z_ishl hx dX5_lost_55 ?_
          refine z_eqi (b := nI (2 ^ n)) (zshl1 hn8) ?_
          refine z_icmp_ge_n (tgt := 113) hx (by omega) (by omega) dX5_lost_56 (by decide) (fun h56 => ?_) (fun h56 => ?_)
          · skip
            have hlo := zlst_le (r := (w, n, mm, cd, rd)) (d := d) hj hn8 k hk
            refine z_lload hx 1 dX5_lost_113 rfl ?_
            refine z_bipush hx (v := nI 10) dX5_lost_115 (by decide +kernel) ?_
            refine z_iload hx 3 dX5_lost_117 rfl ?_
            refine z_callS hx (As := [.int (nI 10), .int (nI n)]) (st := [.long (lN (zlst (w, n, mm, cd, rd) d j k))]) (k_X5_power hI M22 10 n (by omega)) zw_461 zy_X5_power ⟨rfl, rfl⟩ (by decide) rfl rfl (Nat.le_of_ble_eq_true rfl) dX5_lost_119 ?_
            rintro _ M119 ⟨v119, rfl, q119⟩
            obtain ⟨rfl, q119⟩ := q119
            rw [q119]
            show zJ E x 122 _ [.int (nI (10 ^ n)), .long (lN (zlst (w, n, mm, cd, rd) d j k))] _
            refine z_i2l hx dX5_lost_122 ?_
            refine z_eql (b := lN (10 ^ n)) (nI_l (by omega)) ?_
            refine z_stl (Int64.ofInt ((zlst (w, n, mm, cd, rd) d j k : Nat) : Int)) (zlN_ofInt _) ?_
            refine z_iload_n hx 7 dX5_lost_123 rfl rfl ?_
            refine z_callS hx (As := [.long (Int64.ofInt ((zlst (w, n, mm, cd, rd) d j k : Nat) : Int)), .long (lN (10 ^ n)), .int (zdr up)]) (st := []) (k_X5_told hI M22 (zlst (w, n, mm, cd, rd) d j k : Nat) (10 ^ n) up ⟨by omega, by omega⟩ (by omega) (by omega)) zw_413 zy_X5_told ⟨rfl, rfl⟩ (by decide) rfl rfl (Nat.le_of_ble_eq_true rfl) dX5_lost_124 ?_
            rintro _ M124 ⟨v124, rfl, q124⟩
            obtain ⟨rfl, q124⟩ := q124
            rw [q124]
            show zJ E x 127 _ [.long (Int64.ofInt (zTold (zlst (w, n, mm, cd, rd) d j k : Nat) (10 ^ n) up))] _
            refine z_l2i hx dX5_lost_127 ?_
            exact ri _ _ _ _ rfl ⟨_, rfl, (by
                rw [zop_lost, if_neg (by rintro (z | z); exact h1 z; exact z h7), nI_clamp (by omega)]
                have ek : k = 2 ^ n := by omega
                rw [ek]
                exact ⟨rfl, zCs_scr hσ2 (zfr_w q22.2 (fun c h => by omega))⟩)⟩ dX5_lost_128
          · skip
            refine z_aload_n hx 4 dX5_lost_59 rfl rfl ?_
            refine zg_X5_7 hx zw_181 dX5_lost_60 ?_
            refine zg_X2_2 hx zw_166 dX5_lost_63 ?_
            refine z_iload hx 0 dX5_lost_66 rfl ?_
            refine z_iald_n hx (zIA_14 E) (by omega) dX5_lost_68 ?_
            refine z_eqi (b := nI (zrk (w, n, mm, cd, rd) d k)) (q22.1 k (by omega)) ?_
            have hrk : zrk (w, n, mm, cd, rd) d k ≤ zunk w d := hok k (by omega)
            refine z_iload hx 2 dX5_lost_69 rfl ?_
            refine z_icmp_ne_n (tgt := 107) hx (by omega) (by omega) dX5_lost_71 (by decide) (fun h71 => ?_) (fun h71 => ?_)
            · skip
              refine z_iinc hx (w := nI (k + 1)) (lv2 := [(8, .int (nI (k + 1))), (6, .long (lN (zlst (w, n, mm, cd, rd) d j k))), (5, .int (nI (zunk w d))), (4, .int (nI n)), (0, .ref (E.2.2.2 0)), (1, .int (nI j)), (2, .int (zdr d)), (3, .int (zdr up))]) 0 dX5_lost_107 rfl (z_inc _) (by decide) rfl ?_
              refine z_goto (tgt := 50) hx dX5_lost_110 (by decide) ?_
              exact z_to (ih50 (k + 1) (by omega) (by omega)) [0, 1, 2, 3, 4, 5, 6, 7] (by rw [show zlst (w, n, mm, cd, rd) d j (k + 1) = zlst (w, n, mm, cd, rd) d j k from congrArg (zlst (w, n, mm, cd, rd) d j k + ·) (if_neg h71)]; rfl) rfl
            · skip
              have hpk := zpop_le k (by omega) n (by omega) h56
              have hpw := zpw_le (p := zpop k) (m := n) hj hpk
              refine z_iload hx 0 dX5_lost_74 rfl ?_
              refine z_callS hx (As := [.int (nI k)]) (st := []) (k_J6_bitCount_0f7a4 hI M22 k (by omega)) zw_536 zy_J6_bitCount_0f7a4 ⟨rfl, rfl⟩ (by decide) rfl rfl (Nat.le_of_ble_eq_true rfl) dX5_lost_76 ?_
              rintro _ M76 ⟨v76, rfl, q76⟩
              obtain ⟨rfl, q76⟩ := q76
              rw [q76]
              show zJ E x 79 _ [.int (nI (zpop k))] _
              refine z_istore hx (lv2 := [(9, .int (nI (zpop k))), (8, .int (nI k)), (6, .long (lN (zlst (w, n, mm, cd, rd) d j k))), (5, .int (nI (zunk w d))), (4, .int (nI n)), (0, .ref (E.2.2.2 0)), (1, .int (nI j)), (2, .int (zdr d)), (3, .int (zdr up))]) dX5_lost_79 (by decide) rfl ?_
              refine z_lload hx 2 dX5_lost_81 rfl ?_
              refine z_bipush hx (v := nI 10) dX5_lost_83 (by decide +kernel) ?_
              refine z_iload_n hx 6 dX5_lost_85 rfl rfl ?_
              refine z_isub_n hx (by omega) dX5_lost_86 ?_
              refine z_iload hx 0 dX5_lost_87 rfl ?_
              refine z_callS hx (As := [.int (nI (10 - j)), .int (nI (zpop k))]) (st := [.long (lN (zlst (w, n, mm, cd, rd) d j k))]) (k_X5_power hI M22 (10 - j) (zpop k) (by omega)) zw_461 zy_X5_power ⟨rfl, rfl⟩ (by decide) rfl rfl (Nat.le_of_ble_eq_true rfl) dX5_lost_89 ?_
              rintro _ M89 ⟨v89, rfl, q89⟩
              obtain ⟨rfl, q89⟩ := q89
              rw [q89]
              show zJ E x 92 _ [.int (nI ((10 - j) ^ (zpop k))), .long (lN (zlst (w, n, mm, cd, rd) d j k))] _
              refine z_i2l hx dX5_lost_92 ?_
              refine z_iload_n hx 6 dX5_lost_93 rfl rfl ?_
              refine z_iload hx 4 dX5_lost_94 rfl ?_
              refine z_iload hx 0 dX5_lost_96 rfl ?_
              refine z_isub_n hx (by omega) dX5_lost_98 ?_
              refine z_callS hx (As := [.int (nI j), .int (nI (n - (zpop k)))]) (st := [.long ((nI ((10 - j) ^ (zpop k))).toInt64), .long (lN (zlst (w, n, mm, cd, rd) d j k))]) (k_X5_power hI M22 j (n - zpop k) (by omega)) zw_461 zy_X5_power ⟨rfl, rfl⟩ (by decide) rfl rfl (Nat.le_of_ble_eq_true rfl) dX5_lost_99 ?_
              rintro _ M99 ⟨v99, rfl, q99⟩
              obtain ⟨rfl, q99⟩ := q99
              rw [q99]
              show zJ E x 102 _ [.int (nI (j ^ (n - zpop k))), .long ((nI ((10 - j) ^ (zpop k))).toInt64), .long (lN (zlst (w, n, mm, cd, rd) d j k))] _
              refine z_i2l hx dX5_lost_102 ?_
              refine z_lmul hx dX5_lost_103 ?_
              refine z_ladd hx dX5_lost_104 ?_
              refine z_lstore hx (lv2 := [(6, .long ((lN (zlst (w, n, mm, cd, rd) d j k)) + (((nI ((10 - j) ^ (zpop k))).toInt64) * ((nI (j ^ (n - zpop k))).toInt64)))), (9, .int (nI (zpop k))), (8, .int (nI k)), (5, .int (nI (zunk w d))), (4, .int (nI n)), (0, .ref (E.2.2.2 0)), (1, .int (nI j)), (2, .int (zdr d)), (3, .int (zdr up))]) dX5_lost_105 (by decide) rfl ?_
              refine z_iinc hx (w := nI (k + 1)) (lv2 := [(8, .int (nI (k + 1))), (6, .long ((lN (zlst (w, n, mm, cd, rd) d j k)) + (((nI ((10 - j) ^ (zpop k))).toInt64) * ((nI (j ^ (n - zpop k))).toInt64)))), (9, .int (nI (zpop k))), (5, .int (nI (zunk w d))), (4, .int (nI n)), (0, .ref (E.2.2.2 0)), (1, .int (nI j)), (2, .int (zdr d)), (3, .int (zdr up))]) 2 dX5_lost_107 rfl (z_inc _) (by decide) rfl ?_
              refine z_goto (tgt := 50) hx dX5_lost_110 (by decide) ?_
              exact z_to (ih50 (k + 1) (by omega) (by omega)) [0, 1, 3, 4, 5, 6, 7, 8] (by rw [show zlst (w, n, mm, cd, rd) d j (k + 1) = zlst (w, n, mm, cd, rd) d j k + (10 - j) ^ zpop k * j ^ (n - zpop k) from congrArg (zlst (w, n, mm, cd, rd) d j k + ·) (if_pos h71), nI_l (by have := hpw.1; omega), nI_l (by have := hpw.2.1; omega), lN_mul, lN_add]; rfl) rfl
      exact z_to (loop50 _ 0 (Nat.zero_le _) (Nat.lt_succ_self _)) [0, 1, 2, 3, 4, 5, 6, 7] (by rw [show (0 : Int64) = lN 0 by decide +kernel]; rfl) rfl
    · skip
      refine z_bipush hx (v := (-2)) dX5_lost_10 rfl ?_
      exact ri _ _ _ _ rfl ⟨_, rfl, ⟨by rw [zop_lost, if_pos (by first | exact Or.inl h1 | exact Or.inr h7)], hσ2, zfr_rf _ _⟩⟩ dX5_lost_12
