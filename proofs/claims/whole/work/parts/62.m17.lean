theorem zVr_rmv {r : zRo} (h : zVr r) {j : Nat} (hj : j < r.2.1) : zVr (zrmv r j) := by
  obtain ⟨h1, h2, h3, h4⟩ := h
  refine ⟨h1, h2, by show r.2.1 - 1 ≤ 8; omega, fun t ht => ?_⟩
  have ht2 : t < r.2.1 - 1 := ht
  show zcode r.1 (if j ≤ t then r.2.2.2.1 (t + 1) else r.2.2.2.1 t) ∧ -1000 ≤ (if j ≤ t then r.2.2.2.2 (t + 1) else r.2.2.2.2 t) ∧ (if j ≤ t then r.2.2.2.2 (t + 1) else r.2.2.2.2 t) ≤ 1000
  by_cases e : j ≤ t
  · rw [if_pos e, if_pos e]
    exact h4 (t + 1) (by omega)
  · rw [if_neg e, if_neg e]
    exact h4 t (by omega)
theorem zdbt_lt {r : zRo} {d : Bool} {a : Nat} (h8 : r.2.1 ≤ 8) (ha : a < 10) (h : zop_doubtful r d = nI a) : a < r.2.1 := by
  unfold zop_doubtful at h
  cases e : zbest (zqd r d) r.2.1 with
  | none =>
    rw [e] at h
    exact absurd (Eq.symm h) (zn9 (by omega))
  | some o =>
    obtain ⟨i, x, y⟩ := o
    rw [e] at h
    have h1 := (zbest_mem e).1
    have h2 : nI i = nI a := h
    have := (nI_eq (by omega) (by omega)).mp h2
    omega
theorem zPf_mst {M : zM} {p w n mm m : Nat} {cd : Nat → Nat} {rd : Nat → Int} (h : zPf (M.1 p) (w, n, mm, cd, rd)) : zPf ((zputI M p 0 (nI m)).1 p) (w, n, m, cd, rd) := ⟨zhtI, zskK (by omega) h.2.1, fun t ht => ⟨zskK (by omega) (h.2.2 t ht).1, zskK (by omega) (h.2.2 t ht).2⟩⟩
theorem zin_14 {x : Int32} : ((1 : Int64) ≤ x.toInt64 ∧ x.toInt64 ≤ 4) ↔ ¬ (x < nI 1 ∨ nI 4 < x) := by
  have e0 : (1 : Int64).toInt = 1 := by decide +kernel
  have e1 : (4 : Int64).toInt = 4 := by decide +kernel
  rw [Int64.le_iff_toInt_le, Int64.le_iff_toInt_le, Int32.toInt_toInt64, Int32.lt_iff_toInt_lt, Int32.lt_iff_toInt_lt, nI_toInt (by decide), nI_toInt (by decide), e0, e1]
  omega
theorem zrow {R k : Nat} (hk1 : 1 ≤ k) (hk4 : k ≤ 4) (hR : R < 2 ^ 63) : lN R ≤ lN (10000 ^ k) - 1 ↔ R / 10000 ^ (k - 1) < 10000 := by
  have e : lN (10000 ^ k) - 1 = lN (10000 ^ k - 1) ∧ 10000 ^ k - 1 < 2 ^ 63 := by
    rcases (show k = 1 ∨ k = 2 ∨ k = 3 ∨ k = 4 by omega) with rfl | rfl | rfl | rfl <;> decide +kernel
  have h10 : 10000 ^ k = 10000 ^ (k - 1) * 10000 := by rw [← Nat.pow_succ]; congr 1; omega
  have hp : 0 < 10000 ^ (k - 1) := Nat.pow_pos (by decide)
  rw [e.1, pk_lLE hR e.2, Nat.div_lt_iff_lt_mul hp]
  omega
set_option maxHeartbeats 4000000 in
set_option maxRecDepth 100000 in
theorem k_X6_does {E : zE} (hI : zI E) (M : zM) {w n mm : Nat} {cd : Nat → Nat} {rd : Nat → Int} (hR : zPr M 36 (w, n, mm, cd, rd)) (y : Nat) (hy : y < 10000) : zK E yX6_does (.code yX6_does cX6_does 5 (some .boolean)) (zrm 6 149) [.ref (E.2.2.2 32), .int (nI (y / 1000)), .int (nI (y / 100 % 10)), .int (nI (y % 100))] M (zpi (fun v M2 => ((∃ r2, zdo (w, n, mm, cd, rd) y = some r2 ∧ v = nI 1 ∧ zPr M2 36 r2) ∨ (zdo (w, n, mm, cd, rd) y = none ∧ v = nI 0)) ∧ zfT M M2)) := by
  refine zK_of hI (by decide) (Nat.le_of_ble_eq_true rfl) (fun x hx ri rz rl rv => ?_)
  show zJ E x 0 [(0, .ref (E.2.2.2 32)), (1, .int (nI (y / 1000))), (2, .int (nI (y / 100 % 10))), (3, .int (nI (y % 100)))] [] M
  have hW : M.1 32 4 = nI w := hR.1
  have hP0 : M.1 36 0 = nI mm := hR.2.1.1
  have hP1 : M.1 36 1 = nI n := hR.2.1.2.1
  have hPt : ∀ t, t < n → M.1 36 (2 + t) = nI (cd t) ∧ M.1 36 (10 + t) = Int32.ofInt (rd t) := hR.2.1.2.2
  have hw4 : 1 ≤ w ∧ w ≤ 4 := hR.2.2.1
  have hmm9 : mm ≤ 99 := hR.2.2.2.1
  have hn8 : n ≤ 8 := hR.2.2.2.2.1
  have hV : ∀ t, t < n → zcode w (cd t) ∧ -1000 ≤ rd t ∧ rd t ≤ 1000 := hR.2.2.2.2.2
  have hpn := zp2 hn8
  have he10 : y % 100 / 10 = y / 10 % 10 := by omega
  have he1 : y % 100 % 10 = y % 10 := by omega
  have hti : (nI (y / 1000)).toInt = ((y / 1000 : Nat) : Int) := nI_toInt (by omega)
  have hrk : zop_rank (w, n, mm, cd, rd) false ≤ w := zop_rank_le hR.2.2 false
  refine z_aload_n hx 0 dX6_does_0 rfl rfl ?_
  refine zg_X6_8 hx zw_584 dX6_does_1 ?_
  refine z_iconst hx (v := nI 1) dX6_does_4 (by decide +kernel) ?_
  refine z_iald_n hx (zIA_36 E) (by omega) dX6_does_5 ?_
  refine z_eqi (b := nI n) hP1 ?_
  refine z_istore hx (lv2 := [(4, .int (nI n)), (0, .ref (E.2.2.2 32)), (1, .int (nI (y / 1000))), (2, .int (nI (y / 100 % 10))), (3, .int (nI (y % 100)))]) dX6_does_6 (by decide) rfl ?_
  refine z_iload_n hx 2 dX6_does_8 rfl rfl ?_
  by_cases hsw : (nI (y / 1000)).toInt < 1 ∨ 6 < (nI (y / 1000)).toInt
  · skip
    refine z_tableOut (tgt := 197) hx dX6_does_9 hsw (by decide) ?_
    refine z_iconst hx (v := nI 0) dX6_does_197 (by decide +kernel) ?_
    exact rz _ _ _ _ rfl (Or.inl rfl) ⟨_, rfl, ⟨Or.inr ⟨by unfold zdo; dsimp only; rw [if_neg (by omega), if_neg (by omega), if_neg (by omega), if_neg (by omega), if_neg (by omega), if_neg (by omega)], rfl⟩, zfm_rf _ _ _⟩⟩ dX6_does_198
  by_cases hs0 : (nI (y / 1000)).toInt = 1
  · skip
    refine z_tableIn (off := 39) (tgt := 48) hx dX6_does_9 (by omega) (by omega) (by rw [hs0]; rfl) (by decide) ?_
    refine z_iload_n hx 3 dX6_does_48 rfl rfl ?_
    refine z_iload hx 0 dX6_does_49 rfl ?_
    refine z_icmp_ge_n (tgt := 78) hx (by omega) (by omega) dX6_does_51 (by decide) (fun h51 => ?_) (fun h51 => ?_)
    · skip
      refine z_iconst hx (v := nI 0) dX6_does_78 (by decide +kernel) ?_
      exact rz _ _ _ _ rfl (Or.inl rfl) ⟨_, rfl, ⟨Or.inr ⟨by unfold zdo; dsimp only; rw [if_pos (by omega), if_neg (by show ¬ (_ ∧ _ < n ∧ _ < n ∧ _); omega)], rfl⟩, (zfm_rf _ _ _)⟩⟩ dX6_does_79
    · skip
      refine z_iload_n hx 4 dX6_does_54 rfl rfl ?_
      refine z_bipush hx (v := nI 10) dX6_does_55 (by decide +kernel) ?_
      refine z_idiv_n hx (by omega) (by omega) (by omega) dX6_does_57 ?_
      refine z_eqi (b := nI (y / 10 % 10)) (congrArg nI he10) ?_
      refine z_iload hx 0 dX6_does_58 rfl ?_
      refine z_icmp_ge_n (tgt := 78) hx (by omega) (by omega) dX6_does_60 (by decide) (fun h60 => ?_) (fun h60 => ?_)
      · skip
        refine z_iconst hx (v := nI 0) dX6_does_78 (by decide +kernel) ?_
        exact rz _ _ _ _ rfl (Or.inl rfl) ⟨_, rfl, ⟨Or.inr ⟨by unfold zdo; dsimp only; rw [if_pos (by omega), if_neg (by show ¬ (_ ∧ _ < n ∧ _ < n ∧ _); omega)], rfl⟩, (zfm_rf _ _ _)⟩⟩ dX6_does_79
      · skip
        refine z_iload_n hx 3 dX6_does_63 rfl rfl ?_
        refine z_iload_n hx 4 dX6_does_64 rfl rfl ?_
        refine z_bipush hx (v := nI 10) dX6_does_65 (by decide +kernel) ?_
        refine z_idiv_n hx (by omega) (by omega) (by omega) dX6_does_67 ?_
        refine z_eqi (b := nI (y / 10 % 10)) (congrArg nI he10) ?_
        refine z_icmp_eq_n (tgt := 78) hx (by omega) (by omega) dX6_does_68 (by decide) (fun h68 => ?_) (fun h68 => ?_)
        · skip
          refine z_iconst hx (v := nI 0) dX6_does_78 (by decide +kernel) ?_
          exact rz _ _ _ _ rfl (Or.inl rfl) ⟨_, rfl, ⟨Or.inr ⟨by unfold zdo; dsimp only; rw [if_pos (by omega), if_neg (by show ¬ (_ ∧ _ < n ∧ _ < n ∧ _); omega)], rfl⟩, (zfm_rf _ _ _)⟩⟩ dX6_does_79
        · skip
          refine z_iload_n hx 4 dX6_does_71 rfl rfl ?_
          refine z_bipush hx (v := nI 10) dX6_does_72 (by decide +kernel) ?_
          refine z_irem_n hx (by omega) (by omega) (by omega) dX6_does_74 ?_
          refine z_eqi (b := nI (y % 10)) (congrArg nI he1) ?_
          refine z_if_eq_n (tgt := 80) hx (by omega) dX6_does_75 (by decide) (fun h75 => ?_) (fun h75 => ?_)
          · skip
            refine z_aload_n hx 1 dX6_does_80 rfl rfl ?_
            refine zg_X6_8 hx zw_584 dX6_does_81 ?_
            refine z_iload_n hx 3 dX6_does_84 rfl rfl ?_
            refine z_iload_n hx 4 dX6_does_85 rfl rfl ?_
            refine z_bipush hx (v := nI 10) dX6_does_86 (by decide +kernel) ?_
            refine z_idiv_n hx (by omega) (by omega) (by omega) dX6_does_88 ?_
            refine z_eqi (b := nI (y / 10 % 10)) (congrArg nI he10) ?_
            refine z_callS hx (As := [.ref (E.2.2.2 36), .int (nI (y / 100 % 10)), .int (nI (y / 10 % 10))]) (st := []) (k_X6_swapOn hI M zPc_36 (i := y / 100 % 10) (j := y / 10 % 10) hR.2.1 hn8 (by omega) (by omega) (by omega)) zw_732 zy_X6_swapOn ⟨rfl, rfl⟩ (by decide) rfl rfl (Nat.le_of_ble_eq_true rfl) dX6_does_89 ?_
            rintro _ M89 ⟨rfl, q89⟩
            show zJ E x 92 _ [] _
            refine z_iconst hx (v := nI 1) dX6_does_92 (by decide +kernel) ?_
            exact rz _ _ _ _ rfl (Or.inr rfl) ⟨_, rfl, ⟨Or.inl ⟨zswp (w, n, mm, cd, rd) (y / 100 % 10) (y / 10 % 10), by unfold zdo; dsimp only; rw [if_pos (by omega), if_pos ⟨by omega, by show _ < n; omega, by show _ < n; omega, by omega⟩], rfl, ⟨(by rw [(q89.2 32 (by omega)).1]; exact hW), q89.1, zVr_swp (r := (w, n, mm, cd, rd)) hR.2.2 (by show _ < n; omega) (by show _ < n; omega)⟩⟩, (zfm_of (zfr_w q89.2 (fun c z => Or.inl z)) (by omega))⟩⟩ dX6_does_93
          · skip
            refine z_iconst hx (v := nI 0) dX6_does_78 (by decide +kernel) ?_
            exact rz _ _ _ _ rfl (Or.inl rfl) ⟨_, rfl, ⟨Or.inr ⟨by unfold zdo; dsimp only; rw [if_pos (by omega), if_neg (by show ¬ (_ ∧ _ < n ∧ _ < n ∧ _); omega)], rfl⟩, (zfm_rf _ _ _)⟩⟩ dX6_does_79
  by_cases hs1 : (nI (y / 1000)).toInt = 2
  · skip
    refine z_tableIn (off := 85) (tgt := 94) hx dX6_does_9 (by omega) (by omega) (by rw [hs1]; rfl) (by decide) ?_
    refine z_iload_n hx 3 dX6_does_94 rfl rfl ?_
    refine z_iload hx 0 dX6_does_95 rfl ?_
    refine z_icmp_ge_n (tgt := 104) hx (by omega) (by omega) dX6_does_97 (by decide) (fun h97 => ?_) (fun h97 => ?_)
    · skip
      refine z_iconst hx (v := nI 0) dX6_does_104 (by decide +kernel) ?_
      exact rz _ _ _ _ rfl (Or.inl rfl) ⟨_, rfl, ⟨Or.inr ⟨by unfold zdo; dsimp only; rw [if_neg (by omega), if_pos (by omega), if_neg (by show ¬ (_ ∧ _ < n); omega)], rfl⟩, (zfm_rf _ _ _)⟩⟩ dX6_does_105
    · skip
      refine z_iload_n hx 4 dX6_does_100 rfl rfl ?_
      refine z_if_eq_n (tgt := 106) hx (by omega) dX6_does_101 (by decide) (fun h101 => ?_) (fun h101 => ?_)
      · skip
        refine z_aload_n hx 1 dX6_does_106 rfl rfl ?_
        refine zg_X6_8 hx zw_584 dX6_does_107 ?_
        refine z_iload_n hx 3 dX6_does_110 rfl rfl ?_
        refine z_callS hx (As := [.ref (E.2.2.2 36), .int (nI (y / 100 % 10))]) (st := []) (k_X6_takeOn hI M zPc_36 (t := y / 100 % 10) hR.2.1 hn8 (by omega)) zw_725 zy_X6_takeOn ⟨rfl, rfl⟩ (by decide) rfl rfl (Nat.le_of_ble_eq_true rfl) dX6_does_111 ?_
        rintro _ M111 ⟨rfl, q111⟩
        show zJ E x 114 _ [] _
        refine z_iconst hx (v := nI 1) dX6_does_114 (by decide +kernel) ?_
        exact rz _ _ _ _ rfl (Or.inr rfl) ⟨_, rfl, ⟨Or.inl ⟨_, by unfold zdo; dsimp only; rw [if_neg (by omega), if_pos (by omega), if_pos ⟨by omega, by show _ < n; omega⟩], rfl, ⟨(by rw [(q111.2 32 (by omega)).1]; exact hW), q111.1, zVr_rmv (r := (w, n, mm, cd, rd)) hR.2.2 (by show _ < n; omega)⟩⟩, (zfm_of (zfr_w q111.2 (fun c z => Or.inl z)) (by omega))⟩⟩ dX6_does_115
      · skip
        refine z_iconst hx (v := nI 0) dX6_does_104 (by decide +kernel) ?_
        exact rz _ _ _ _ rfl (Or.inl rfl) ⟨_, rfl, ⟨Or.inr ⟨by unfold zdo; dsimp only; rw [if_neg (by omega), if_pos (by omega), if_neg (by show ¬ (_ ∧ _ < n); omega)], rfl⟩, (zfm_rf _ _ _)⟩⟩ dX6_does_105
  by_cases hs2 : (nI (y / 1000)).toInt = 3
  · skip
    refine z_tableIn (off := 107) (tgt := 116) hx dX6_does_9 (by omega) (by omega) (by rw [hs2]; rfl) (by decide) ?_
    refine z_aload_n hx 1 dX6_does_116 rfl rfl ?_
    refine z_iload_n hx 3 dX6_does_117 rfl rfl ?_
    refine z_iload_n hx 4 dX6_does_118 rfl rfl ?_
    refine z_callV hx (As := [.int (nI (y / 100 % 10)), .int (nI (y % 100))]) (st := []) (k_X6_isWorth hI M hR (a := y / 100 % 10) (b := y % 100) (by omega) (by omega)) zw_874 zy_X6_isWorth ⟨rfl, rfl⟩ (by decide) (zOB_X6 E) rfl rfl rfl rfl (Nat.le_of_ble_eq_true rfl) dX6_does_119 ?_
    rintro _ M119 ⟨v119, rfl, q119⟩
    obtain ⟨q119, q119f⟩ := q119
    rcases q119 with ⟨q119, rfl⟩ | ⟨q119, rfl⟩
    · skip
      show zJ E x 122 _ [.int (nI 1)] _
      exact rz _ _ _ _ rfl (Or.inr rfl) ⟨_, rfl, ⟨Or.inl ⟨_, by unfold zdo; dsimp only; rw [if_neg (by omega), if_neg (by omega), if_pos (by omega), if_pos q119], rfl, (zPr_fr hR q119f zPc_36 (by omega) (by omega))⟩, (zfT_L q119f)⟩⟩ dX6_does_122
    · skip
      show zJ E x 122 _ [.int (nI 0)] _
      exact rz _ _ _ _ rfl (Or.inl rfl) ⟨_, rfl, ⟨Or.inr ⟨by unfold zdo; dsimp only; rw [if_neg (by omega), if_neg (by omega), if_pos (by omega), if_neg q119], rfl⟩, (zfT_L q119f)⟩⟩ dX6_does_122
  by_cases hs3 : (nI (y / 1000)).toInt = 4
  · skip
    refine z_tableIn (off := 114) (tgt := 123) hx dX6_does_9 (by omega) (by omega) (by rw [hs3]; rfl) (by decide) ?_
    refine z_iload_n hx 4 dX6_does_123 rfl rfl ?_
    refine z_if_ne_n (tgt := 151) hx (by omega) dX6_does_124 (by decide) (fun h124 => ?_) (fun h124 => ?_)
    · skip
      refine z_iconst hx (v := nI 0) dX6_does_151 (by decide +kernel) ?_
      exact rz _ _ _ _ rfl (Or.inl rfl) ⟨_, rfl, ⟨Or.inr ⟨by unfold zdo; dsimp only; rw [if_neg (by omega), if_neg (by omega), if_neg (by omega), if_pos (by omega), if_neg (fun z => by first | exact absurd z.1 (by omega) | exact h144 z.2)], rfl⟩, (zfm_rf _ _ _)⟩⟩ dX6_does_152
    · skip
      refine z_aload_n hx 1 dX6_does_127 rfl rfl ?_
      refine z_aload_n hx 1 dX6_does_128 rfl rfl ?_
      refine zg_X6_8 hx zw_584 dX6_does_129 ?_
      refine z_aload_n hx 1 dX6_does_132 rfl rfl ?_
      refine zg_X6_8 hx zw_584 dX6_does_133 ?_
      refine z_callS hx (As := [.ref (E.2.2.2 36)]) (st := [.ref (E.2.2.2 36), .ref (E.2.2.2 32)]) (k_X6_allOf hI M (p := 36) (n := n) zPc_36 hP1 hn8) zw_752 zy_X6_allOf ⟨rfl, rfl⟩ (by decide) rfl rfl (Nat.le_of_ble_eq_true rfl) dX6_does_136 ?_
      rintro _ M136 ⟨v136, rfl, q136⟩
      obtain ⟨rfl, q136⟩ := q136
      rw [q136]
      show zJ E x 139 _ [.int (nI (2 ^ n - 1)), .ref (E.2.2.2 36), .ref (E.2.2.2 32)] _
      refine z_iconst hx (v := nI 0) dX6_does_139 (by decide +kernel) ?_
      refine z_callV hx (As := [.ref (E.2.2.2 36), .int (nI (2 ^ n - 1)), .int (nI 0)]) (st := []) (k_X6_rankOf hI M zPc_36 hR (s := 2 ^ n - 1) (by omega) false (ρ := zop_rank (w, n, mm, cd, rd) false) (by rw [show zGm (w, n, mm, cd, rd) false (zst (2 ^ n - 1)) = zGm (w, n, mm, cd, rd) false zall from zGm_al (r := (w, n, mm, cd, rd)) false hn8]; exact zrank_rp (r := (w, n, mm, cd, rd)) hR.2.2 false)) zw_755 zy_X6_rankOf ⟨rfl, rfl⟩ (by decide) (zOB_X6 E) rfl rfl rfl rfl (Nat.le_of_ble_eq_true rfl) dX6_does_140 ?_
      rintro _ M140 ⟨v140, rfl, q140⟩
      have q140v := q140.1
      subst q140v
      show zJ E x 143 _ [.int (nI (zop_rank (w, n, mm, cd, rd) false))] _
      refine z_iload_n hx 3 dX6_does_143 rfl rfl ?_
      refine z_icmp_ne_n (tgt := 151) hx (by omega) (by omega) dX6_does_144 (by decide) (fun h144 => ?_) (fun h144 => ?_)
      · skip
        refine z_iconst hx (v := nI 0) dX6_does_151 (by decide +kernel) ?_
        exact rz _ _ _ _ rfl (Or.inl rfl) ⟨_, rfl, ⟨Or.inr ⟨by unfold zdo; dsimp only; rw [if_neg (by omega), if_neg (by omega), if_neg (by omega), if_pos (by omega), if_neg (fun z => by first | exact absurd z.1 (by omega) | exact h144 z.2)], rfl⟩, (zfT_L q140.2)⟩⟩ dX6_does_152
      · skip
        refine z_iconst hx (v := nI 1) dX6_does_147 (by decide +kernel) ?_
        refine z_goto (tgt := 152) hx dX6_does_148 (by decide) ?_
        exact rz _ _ _ _ rfl (Or.inr rfl) ⟨_, rfl, ⟨Or.inl ⟨_, by unfold zdo; dsimp only; rw [if_neg (by omega), if_neg (by omega), if_neg (by omega), if_pos (by omega), if_pos ⟨by omega, h144⟩], rfl, (zPr_fr hR q140.2 zPc_36 (by omega) (by omega))⟩, (zfT_L q140.2)⟩⟩ dX6_does_152
  by_cases hs4 : (nI (y / 1000)).toInt = 5
  · skip
    refine z_tableIn (off := 144) (tgt := 153) hx dX6_does_9 (by omega) (by omega) (by rw [hs4]; rfl) (by decide) ?_
    refine z_iload_n hx 3 dX6_does_153 rfl rfl ?_
    refine z_iload hx 0 dX6_does_154 rfl ?_
    refine z_icmp_ge_n (tgt := 180) hx (by omega) (by omega) dX6_does_156 (by decide) (fun h156 => ?_) (fun h156 => ?_)
    · skip
      refine z_iconst hx (v := nI 0) dX6_does_180 (by decide +kernel) ?_
      exact rz _ _ _ _ rfl (Or.inl rfl) ⟨_, rfl, ⟨Or.inr ⟨by unfold zdo; dsimp only; rw [if_neg (by omega), if_neg (by omega), if_neg (by omega), if_neg (by omega), if_pos (by omega), if_neg (fun z => by first | exact absurd z.1 (by omega) | exact h173 z.2 | exact absurd (zdbt_lt (r := (w, n, mm, cd, rd)) hn8 (by omega) z.2) (by show ¬ _ < n; omega))], rfl⟩, (zfm_rf _ _ _)⟩⟩ dX6_does_181
    · skip
      refine z_iload_n hx 4 dX6_does_159 rfl rfl ?_
      refine z_if_ne_n (tgt := 180) hx (by omega) dX6_does_160 (by decide) (fun h160 => ?_) (fun h160 => ?_)
      · skip
        refine z_iconst hx (v := nI 0) dX6_does_180 (by decide +kernel) ?_
        exact rz _ _ _ _ rfl (Or.inl rfl) ⟨_, rfl, ⟨Or.inr ⟨by unfold zdo; dsimp only; rw [if_neg (by omega), if_neg (by omega), if_neg (by omega), if_neg (by omega), if_pos (by omega), if_neg (fun z => by first | exact absurd z.1 (by omega) | exact h173 z.2 | exact absurd (zdbt_lt (r := (w, n, mm, cd, rd)) hn8 (by omega) z.2) (by show ¬ _ < n; omega))], rfl⟩, (zfm_rf _ _ _)⟩⟩ dX6_does_181
      · skip
        refine z_aload_n hx 1 dX6_does_163 rfl rfl ?_
        refine z_aload_n hx 1 dX6_does_164 rfl rfl ?_
        refine zg_X6_8 hx zw_584 dX6_does_165 ?_
        refine z_iconst hx (v := nI 0) dX6_does_168 (by decide +kernel) ?_
        refine z_callV hx (As := [.ref (E.2.2.2 36), .int (nI 0)]) (st := []) (k_X6_doubtfulOf hI M zPc_36 hR false) zw_853 zy_X6_doubtfulOf ⟨rfl, rfl⟩ (by decide) (zOB_X6 E) rfl rfl rfl rfl (Nat.le_of_ble_eq_true rfl) dX6_does_169 ?_
        rintro _ M169 ⟨v169, rfl, q169⟩
        have q169v := q169.1
        subst q169v
        show zJ E x 172 _ [.int (zop_doubtful (w, n, mm, cd, rd) false)] _
        refine z_iload_n hx 3 dX6_does_172 rfl rfl ?_
        refine z_icmp_ne (tgt := 180) hx dX6_does_173 (by decide) (fun h173 => ?_) (fun h173 => ?_)
        · skip
          refine z_iconst hx (v := nI 0) dX6_does_180 (by decide +kernel) ?_
          exact rz _ _ _ _ rfl (Or.inl rfl) ⟨_, rfl, ⟨Or.inr ⟨by unfold zdo; dsimp only; rw [if_neg (by omega), if_neg (by omega), if_neg (by omega), if_neg (by omega), if_pos (by omega), if_neg (fun z => by first | exact absurd z.1 (by omega) | exact h173 z.2 | exact absurd (zdbt_lt (r := (w, n, mm, cd, rd)) hn8 (by omega) z.2) (by show ¬ _ < n; omega))], rfl⟩, (zfT_L q169.2)⟩⟩ dX6_does_181
        · skip
          refine z_iconst hx (v := nI 1) dX6_does_176 (by decide +kernel) ?_
          refine z_goto (tgt := 181) hx dX6_does_177 (by decide) ?_
          exact rz _ _ _ _ rfl (Or.inr rfl) ⟨_, rfl, ⟨Or.inl ⟨_, by unfold zdo; dsimp only; rw [if_neg (by omega), if_neg (by omega), if_neg (by omega), if_neg (by omega), if_pos (by omega), if_pos ⟨by omega, h173⟩], rfl, (zPr_fr hR q169.2 zPc_36 (by omega) (by omega))⟩, (zfT_L q169.2)⟩⟩ dX6_does_181
  have hs5 : (nI (y / 1000)).toInt = 6 := by omega
  · skip
    refine z_tableIn (off := 173) (tgt := 182) hx dX6_does_9 (by omega) (by omega) (by rw [hs5]; rfl) (by decide) ?_
    refine z_iload_n hx 3 dX6_does_182 rfl rfl ?_
    refine z_if_eq_n (tgt := 188) hx (by omega) dX6_does_183 (by decide) (fun h183 => ?_) (fun h183 => ?_)
    · skip
      refine z_aload_n hx 1 dX6_does_188 rfl rfl ?_
      refine zg_X6_8 hx zw_584 dX6_does_189 ?_
      refine z_iconst hx (v := nI 0) dX6_does_192 (by decide +kernel) ?_
      refine z_iload_n hx 4 dX6_does_193 rfl rfl ?_
      refine z_iast_n hx (zIA_36 E) (by omega) dX6_does_194 ?_
      refine z_iconst hx (v := nI 1) dX6_does_195 (by decide +kernel) ?_
      exact rz _ _ _ _ rfl (Or.inr rfl) ⟨_, rfl, ⟨Or.inl ⟨_, by unfold zdo; dsimp only; rw [if_neg (by omega), if_neg (by omega), if_neg (by omega), if_neg (by omega), if_neg (by omega), if_pos (by omega), if_pos (by omega)], rfl, ⟨zskI (by omega) hW, zPf_mst hR.2.1, hR.2.2.1, by show y % 100 ≤ 99; omega, hR.2.2.2.2⟩⟩, (zfm_cI (Or.inl rfl) (by omega))⟩⟩ dX6_does_196
    · skip
      refine z_iconst hx (v := nI 0) dX6_does_186 (by decide +kernel) ?_
      exact rz _ _ _ _ rfl (Or.inl rfl) ⟨_, rfl, ⟨Or.inr ⟨by unfold zdo; dsimp only; rw [if_neg (by omega), if_neg (by omega), if_neg (by omega), if_neg (by omega), if_neg (by omega), if_pos (by omega), if_neg (by omega)], rfl⟩, (zfm_rf _ _ _)⟩⟩ dX6_does_187
set_option maxHeartbeats 4000000 in
set_option maxRecDepth 100000 in
theorem k_X6_judge {E : zE} (hI : zI E) (M : zM) {σ : zSt} (hσ : zMs M σ) (hk : zSk σ) (n0 : Int32) (row : Int64) : zK E yX6_judge (.code yX6_judge cX6_judge 6 (some .int)) (zrm 7 173) [.ref (E.2.2.2 32), .int n0, .long row] M (zpi (fun v M2 => v = zop_judge σ.2.2.1 n0 row ∧ zMs M2 σ ∧ zfN M M2)) := by
  refine zK_of hI (by decide) (Nat.le_of_ble_eq_true rfl) (fun x hx ri rz rl rv => ?_)
  show zJ E x 0 [(0, .ref (E.2.2.2 32)), (1, .int n0), (2, .long row)] [] M
  obtain ⟨tx, len, ⟨w, n, mm, cd, rd⟩, as, s, sl, sd⟩ := σ
  have hσ2 := hσ
  obtain ⟨⟨hL, hT⟩, hW, hP, ⟨hs, hA⟩, hS, hsd⟩ := hσ
  have hv := hk.1
  have hw4 : 1 ≤ w ∧ w ≤ 4 := hv.1
  have hmm : mm ≤ 99 := hv.2.1
  have hn8 : n ≤ 8 := hv.2.2.1
  have hlen : len ≤ 90 := hk.2.1.1
  have hs14 : s ≤ 14 := hk.2.2.1
  have hL : M.1 32 2 = nI len := hL
  have hW : M.1 32 4 = nI w := hW
  have hs : M.1 32 11 = nI s := hs
  have hsd : M.2 32 14 = sd := hsd
  have hP0 : M.1 35 0 = nI mm := hP.1
  have hP1 : M.1 35 1 = nI n := hP.2.1
  have hP2 : ∀ t, t < n → M.1 35 (2 + t) = nI (cd t) ∧ M.1 35 (10 + t) = Int32.ofInt (rd t) := hP.2.2
  have hT : ∀ k, k < 90 → M.1 33 k = nI (tx k) := hT
  refine z_aload_n hx 0 dX6_judge_0 rfl rfl ?_
  refine z_iconst hx (v := nI 0) dX6_judge_1 (by decide +kernel) ?_
  refine zp_X6_0 hx zw_576 dX6_judge_2 ?_
  refine z_iload_n hx 1 dX6_judge_5 rfl rfl ?_
  refine z_i2l hx dX6_judge_6 ?_
  refine z_lconst hx (v := 1) dX6_judge_7 rfl ?_
  refine z_ldc2 hx zw_865 dX6_judge_8 ?_
  refine z_callS hx (As := [.long n0.toInt64, .long 1, .long (4)]) (st := []) (k_X6_in hI (zputI M 32 0 (nI 0)) n0.toInt64 1 (4)) zw_654 zy_X6_in ⟨rfl, rfl⟩ (by decide) rfl rfl (Nat.le_of_ble_eq_true rfl) dX6_judge_11 ?_
  rintro _ M11 ⟨v11, rfl, q11⟩
  obtain ⟨q11, hmm⟩ := q11
  rw [hmm]
  rw [zin_14] at q11
  rcases q11 with ⟨q11, rfl⟩ | ⟨q11, rfl⟩
  · skip
    show zJ E x 14 _ [.int (nI 1)] _
    obtain ⟨k, hk1, hk4, rfl⟩ := zr14 (znot q11).1 (znot q11).2
    refine z_if_eq_n (tgt := 34) hx (by decide) dX6_judge_14 (by decide) (fun h => absurd h (by decide)) (fun _ => ?_)
    refine z_lload_n hx 2 dX6_judge_17 rfl rfl ?_
    refine z_lconst hx (v := 0) dX6_judge_18 rfl ?_
    refine z_ldc2 hx zw_866 dX6_judge_19 ?_
    refine z_eql (b := lN 10000) (by decide +kernel) ?_
    refine z_iload_n hx 1 dX6_judge_22 rfl rfl ?_
    refine z_callS hx (As := [.long (lN 10000), .int (nI k)]) (st := [.long 0, .long row]) (k_X6_longPower hI (zputI M 32 0 (nI 0)) 10000 k (by omega)) zw_867 zy_X6_longPower ⟨rfl, rfl⟩ (by decide) rfl rfl (Nat.le_of_ble_eq_true rfl) dX6_judge_23 ?_
    rintro _ M23 ⟨v23, rfl, q23⟩
    obtain ⟨rfl, q23⟩ := q23
    rw [q23]
    show zJ E x 26 _ [.long (lN (10000 ^ k)), .long 0, .long row] _
    refine z_lconst hx (v := 1) dX6_judge_26 rfl ?_
    refine z_lsub hx dX6_judge_27 ?_
    refine z_callS hx (As := [.long row, .long 0, .long ((lN (10000 ^ k)) - 1)]) (st := []) (k_X6_in hI (zputI M 32 0 (nI 0)) row 0 ((lN (10000 ^ k)) - 1)) zw_654 zy_X6_in ⟨rfl, rfl⟩ (by decide) rfl rfl (Nat.le_of_ble_eq_true rfl) dX6_judge_28 ?_
    rintro _ M28 ⟨v28, rfl, q28⟩
    obtain ⟨q28, hmm⟩ := q28
    rw [hmm]
    rcases q28 with ⟨q28, rfl⟩ | ⟨q28, rfl⟩
    · skip
      show zJ E x 31 _ [.int (nI 1)] _
      have hrow : ¬ row < 0 := Int64.not_lt.mpr q28.1
      obtain ⟨R, hR63, rfl⟩ := pk_lOf hrow
      have hsm := (zrow hk1 hk4 hR63).mp q28.2
      have hok : ¬ (nI k < nI 1 ∨ nI 4 < nI k ∨ lN R < 0) := by rintro (z | z | z); exact (znot q11).1 z; exact (znot q11).2 z; exact hrow z
      refine z_if_ne_n (tgt := 37) hx (by decide) dX6_judge_31 (by decide) (fun _ => ?_) (fun h => absurd h (by decide))
      refine z_aload_n hx 0 dX6_judge_37 rfl rfl ?_
      refine zg_X6_7 hx zw_583 dX6_judge_38 ?_
      refine z_aload_n hx 0 dX6_judge_41 rfl rfl ?_
      refine zg_X6_8 hx zw_584 dX6_judge_42 ?_
      refine z_callS hx (As := [.ref (E.2.2.2 35), .ref (E.2.2.2 36)]) (st := []) (k_X6_copy hI (zputI M 32 0 (nI 0)) (p := 35) (q := 36) zPc_35 zPc_36 (by omega)) zw_689 zy_X6_copy ⟨rfl, rfl⟩ (by decide) rfl rfl (Nat.le_of_ble_eq_true rfl) dX6_judge_45 ?_
      rintro _ M45 ⟨rfl, q45⟩
      show zJ E x 48 _ [] _
      refine z_iconst hx (v := nI 0) dX6_judge_48 (by decide +kernel) ?_
      refine z_istore hx (lv2 := [(4, .int (nI 0)), (0, .ref (E.2.2.2 32)), (1, .int (nI k)), (2, .long (lN R))]) dX6_judge_49 (by decide) rfl ?_
      have loop51 : ∀ (fuel51 : Nat) (p q : Nat) (r1 : zRo) (N : zM) (_ : p + q = k) (_ : zfT (zputI M 32 0 (nI 0)) N) (_ : zPr N 36 r1) (_ : zjr R k q r1 = zjr R k k (w, n, mm, cd, rd)), k - p < fuel51 → zJ E x 51 [(4, .int (nI p)), (0, .ref (E.2.2.2 32)), (1, .int (nI k)), (2, .long (lN R))] [] N := by
        intro fuel51
        induction fuel51 with
        | zero =>
          intros; omega
        | succ fuel51 ih51 =>
          intro p q r1 N hpq hNf hNr hNj hfuel51
          refine z_iload hx 0 dX6_judge_51 rfl ?_
          refine z_iload_n hx 2 dX6_judge_53 rfl rfl ?_
          refine z_icmp_ge_n (tgt := 113) hx (by omega) (by omega) dX6_judge_54 (by decide) (fun h54 => ?_) (fun h54 => ?_)
          · skip
            refine z_bipush hx (v := (-9)) dX6_judge_113 rfl ?_
            exact ri _ _ _ _ rfl ⟨_, rfl, ⟨by rw [zop_judge, if_neg hok, if_neg (by rw [zlN_toNat hR63, nI_clamp (by omega)]; omega), zlN_toNat hR63, nI_clamp (by omega), ← hNj, show q = 0 by omega]; rfl, zMs_T hσ2 hNf⟩⟩ dX6_judge_115
          · skip
            obtain ⟨q, rfl⟩ : ∃ q1, q = q1 + 1 := ⟨q - 1, by omega⟩
            have hz1 := z10k (q := q) (by omega)
            obtain ⟨w1, n1, mm1, cd1, rd1⟩ := r1
            refine z_lload_n hx 3 dX6_judge_57 rfl rfl ?_
            refine z_ldc2 hx zw_866 dX6_judge_58 ?_
            refine z_eql (b := lN 10000) (by decide +kernel) ?_
            refine z_iload_n hx 2 dX6_judge_61 rfl rfl ?_
            refine z_iconst hx (v := nI 1) dX6_judge_62 (by decide +kernel) ?_
            refine z_isub_n hx (by omega) dX6_judge_63 ?_
            refine z_iload hx 0 dX6_judge_64 rfl ?_
            refine z_isub_n hx (by omega) dX6_judge_66 ?_
            refine z_eqi (b := nI q) (congrArg nI (by omega)) ?_
            refine z_callS hx (As := [.long (lN 10000), .int (nI q)]) (st := [.long (lN R)]) (k_X6_longPower hI N 10000 q (by omega)) zw_867 zy_X6_longPower ⟨rfl, rfl⟩ (by decide) rfl rfl (Nat.le_of_ble_eq_true rfl) dX6_judge_67 ?_
            rintro _ M67 ⟨v67, rfl, q67⟩
            obtain ⟨rfl, q67⟩ := q67
            rw [q67]
            show zJ E x 70 _ [.long (lN (10000 ^ q)), .long (lN R)] _
            refine z_ldiv hx dX6_judge_70 (fun z => by have z2 := (pk_lEQ (b := 0) (by omega) (by decide)).mp (z.trans (by decide +kernel)); omega) ?_
            refine z_eql (b := lN (R / 10000 ^ q)) (pk_lDiv (b := 10000 ^ q) hR63 (by omega) (by omega)) ?_
            have hdle := Nat.div_le_self R (10000 ^ q)
            refine z_ldc2 hx zw_866 dX6_judge_71 ?_
            refine z_lrem hx dX6_judge_74 (by decide +kernel) ?_
            refine z_l2i hx dX6_judge_75 ?_
            refine z_eqi (b := nI (R / 10000 ^ q % 10000)) (zrem10k (by omega)) ?_
            have hy4 : R / 10000 ^ q % 10000 < 10000 := Nat.mod_lt _ (by decide)
            refine z_istore hx (lv2 := [(5, .int (nI (R / 10000 ^ q % 10000))), (4, .int (nI p)), (0, .ref (E.2.2.2 32)), (1, .int (nI k)), (2, .long (lN R))]) dX6_judge_76 (by decide) rfl ?_
            refine z_aload_n hx 2 dX6_judge_78 rfl rfl ?_
            refine z_iload hx 0 dX6_judge_79 rfl ?_
            refine z_sipush hx (v := nI 1000) dX6_judge_81 (by decide +kernel) ?_
            refine z_idiv_n hx (by omega) (by omega) (by omega) dX6_judge_84 ?_
            refine z_iload hx 0 dX6_judge_85 rfl ?_
            refine z_bipush hx (v := nI 100) dX6_judge_87 (by decide +kernel) ?_
            refine z_idiv_n hx (by omega) (by omega) (by omega) dX6_judge_89 ?_
            refine z_bipush hx (v := nI 10) dX6_judge_90 (by decide +kernel) ?_
            refine z_irem_n hx (by omega) (by omega) (by omega) dX6_judge_92 ?_
            refine z_iload hx 0 dX6_judge_93 rfl ?_
            refine z_bipush hx (v := nI 100) dX6_judge_95 (by decide +kernel) ?_
            refine z_irem_n hx (by omega) (by omega) (by omega) dX6_judge_97 ?_
            refine z_callV hx (As := [.int (nI ((R / 10000 ^ q % 10000) / 1000)), .int (nI (((R / 10000 ^ q % 10000) / 100) % 10)), .int (nI ((R / 10000 ^ q % 10000) % 100))]) (st := []) (k_X6_does hI N hNr (R / 10000 ^ q % 10000) hy4) zw_870 zy_X6_does ⟨rfl, rfl⟩ (by decide) (zOB_X6 E) rfl rfl rfl rfl (Nat.le_of_ble_eq_true rfl) dX6_judge_98 ?_
            rintro _ M98 ⟨v98, rfl, q98⟩
            obtain ⟨q98, q98f⟩ := q98
            rcases q98 with ⟨r2, q98a, rfl, q98⟩ | ⟨q98a, rfl⟩
            · skip
              show zJ E x 101 _ [.int (nI 1)] _
              refine z_if_ne_n (tgt := 107) hx (by decide) dX6_judge_101 (by decide) (fun _ => ?_) (fun h => absurd h (by decide))
              refine z_iinc hx (w := nI (p + 1)) (lv2 := [(4, .int (nI (p + 1))), (5, .int (nI (R / 10000 ^ q % 10000))), (0, .ref (E.2.2.2 32)), (1, .int (nI k)), (2, .long (lN R))]) 1 dX6_judge_107 rfl (z_inc _) (by decide) rfl ?_
              refine z_goto (tgt := 51) hx dX6_judge_110 (by decide) ?_
              exact z_to (ih51 (p + 1) q r2 M98 (by omega) (zfm_tr hNf q98f) q98 (by rw [← hNj, zjr, q98a]) (by omega)) [0, 2, 3, 4] rfl rfl
            · skip
              show zJ E x 101 _ [.int (nI 0)] _
              refine z_if_ne_n (tgt := 107) hx (by decide) dX6_judge_101 (by decide) (fun h => absurd h (by decide)) (fun _ => ?_)
              refine z_iload hx 1 dX6_judge_104 rfl ?_
              exact ri _ _ _ _ rfl ⟨_, rfl, ⟨by rw [zop_judge, if_neg hok, if_neg (by rw [zlN_toNat hR63, nI_clamp (by omega)]; omega), zlN_toNat hR63, nI_clamp (by omega), ← hNj, zjr, q98a, show k - (q + 1) = p by omega], zMs_T hσ2 (zfm_tr hNf q98f)⟩⟩ dX6_judge_106
      exact z_to (loop51 _ 0 k (w, n, mm, cd, rd) M45 (by omega) (zfm_of (zfr_w q45.2 (fun c z => Or.inl z)) (by omega)) ⟨(by rw [(q45.2 32 (by omega)).1]; exact zskK (by omega) hW), zPf_cg hP hn8 (fun j hj => q45.1 j hj), hk.1⟩ rfl (Nat.lt_succ_self _)) [0, 1, 2, 3] rfl rfl
    · skip
      show zJ E x 31 _ [.int (nI 0)] _
      have hjo : zop_judge (w, n, mm, cd, rd) (nI k) row = -2 := by
        rw [zop_judge]
        by_cases z : row < 0
        · exact if_pos (Or.inr (Or.inr z))
        · obtain ⟨R, hR63, rfl⟩ := pk_lOf z
          rw [if_neg (by rintro (y | y | y); exact (znot q11).1 y; exact (znot q11).2 y; exact z y), if_pos (by rw [zlN_toNat hR63, nI_clamp (by omega)]; exact Nat.not_lt.mp (fun y => q28 ⟨Int64.not_lt.mp z, (zrow hk1 hk4 hR63).mpr y⟩))]
      refine z_if_ne_n (tgt := 37) hx (by decide) dX6_judge_31 (by decide) (fun h => absurd h (by decide)) (fun _ => ?_)
      refine z_bipush hx (v := (-2)) dX6_judge_34 rfl ?_
      exact ri _ _ _ _ rfl ⟨_, rfl, ⟨Eq.symm hjo, zMs_t hσ2, zfN_t⟩⟩ dX6_judge_36
  · skip
    show zJ E x 14 _ [.int (nI 0)] _
    refine z_if_eq_n (tgt := 34) hx (by decide) dX6_judge_14 (by decide) (fun _ => ?_) (fun h => absurd h (by decide))
    refine z_bipush hx (v := (-2)) dX6_judge_34 rfl ?_
    exact ri _ _ _ _ rfl ⟨_, rfl, ⟨by rw [zop_judge, if_pos (Classical.byContradiction (fun z => q11 (by rintro (y | y); exact z (Or.inl y); exact z (Or.inr (Or.inl y)))))], zMs_t hσ2, zfN_t⟩⟩ dX6_judge_36
