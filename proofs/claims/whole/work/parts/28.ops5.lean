def zswp (r : zRo) (i j : Nat) : zRo := (r.1, r.2.1, r.2.2.1, zexch r.2.2.2.1 i j, zexch r.2.2.2.2 i j)
def zbs1 (q : Option (Int × Int)) (c : Int32) (s : Int32 × Int × Int) : Int32 × Int × Int := match q with
  | none => s
  | some (a, b) => if a * s.2.2 < s.2.1 * b then (c, a, b) else s
def zbin (r : zRo) (s : Int32 × Int × Int) (i : Nat) : Nat → Int32 × Int × Int
  | 0 => s
  | m + 1 => zbs1 (zqt (zswp r i (i + 1 + m)) true) (nI (10 * i + (i + 1 + m))) (zbin r s i m)
def zbout (r : zRo) (s : Int32 × Int × Int) : Nat → Int32 × Int × Int
  | 0 => s
  | i + 1 => zbin r (zbout r s i) i (r.2.1 - (i + 1))
def zop_better (r : zRo) : Int32 := match zqt r true with
  | none => -3
  | some (x, y) => (zbout r (-9, x, y) r.2.1).1
def zgood (s : Int32 × Int × Int) : Prop := zab s.2.1 4000000 ∧ 0 < s.2.2 ∧ s.2.2 ≤ 600000
theorem zVr_swp {r : zRo} (h : zVr r) {i j : Nat} (hi : i < r.2.1) (hj : j < r.2.1) : zVr (zswp r i j) := by
  refine ⟨h.1, h.2.1, h.2.2.1, fun t ht => ?_⟩
  have ht2 : t < r.2.1 := ht
  show zcode r.1 (zexch r.2.2.2.1 i j t) ∧ -1000 ≤ zexch r.2.2.2.2 i j t ∧ zexch r.2.2.2.2 i j t ≤ 1000
  unfold zexch
  by_cases e : t = j
  · rw [if_pos e, if_pos e]; exact h.2.2.2 i hi
  · rw [if_neg e, if_neg e]
    by_cases e2 : t = i
    · rw [if_pos e2, if_pos e2]; exact h.2.2.2 j hj
    · rw [if_neg e2, if_neg e2]; exact h.2.2.2 t ht2
theorem zbs1_good {q : Option (Int × Int)} {c : Int32} {s : Int32 × Int × Int} (hs : zgood s) (hq : ∀ x y, q = some (x, y) → zab x 4000000 ∧ 0 < y ∧ y ≤ 600000) : zgood (zbs1 q c s) := by
  unfold zbs1
  split
  · exact hs
  · rename_i a b
    split
    · exact hq a b rfl
    · exact hs
/-- what solves found, as totals -/
theorem zqt_of {r : zRo} {T : Nat → Nat → Nat → Int} {D : Nat → Int} (hD1 : D (zunk r.1 true) = zdet (zunk r.1 true) (zGm r true zall)) (h0 : 0 < D (zunk r.1 true)) (h : ∀ i, i < zunk r.1 true → T (zunk r.1 true) i i = -zMin (zGm r true zall) (zunk r.1 true) i) : zqt r true = some (zS r.1 (fun k => -T (zunk r.1 true) k k), D (zunk r.1 true)) := by
  unfold zqt
  rw [if_pos (by rw [← hD1]; exact h0), ← hD1]
  congr 2
  exact zS_cong (fun k hk => by rw [h k (by unfold zunk; simp; omega), Int.neg_neg])
theorem zqt_no {r : zRo} {D : Nat → Int} (hD1 : D (zunk r.1 true) = zdet (zunk r.1 true) (zGm r true zall)) (h0 : D (zunk r.1 true) = 0) : zqt r true = none := by
  unfold zqt
  rw [if_neg (by rw [← hD1]; omega)]
set_option maxHeartbeats 4000000 in
set_option maxRecDepth 100000 in
theorem k_X5_better {E : zE} (hI : zI E) (M : zM) {σ : zSt} (hσ : zCs M σ) (hth : zTheory) : zK E yX5_better (.code yX5_better cX5_better 8 (some .int)) (zrm 5 119) [.ref (E.2.2.2 0)] M (zpi (fun v M2 => v = zop_better σ.2.2.1 ∧ zCs M2 σ ∧ zfC M M2)) := by
  refine zK_of hI (by decide) (Nat.le_of_ble_eq_true rfl) (fun x hx ri rz rl rv => ?_)
  show zJ E x 0 [(0, .ref (E.2.2.2 0))] [] M
  obtain ⟨tx, len, ⟨w, n, mm, cd, rd⟩, as, s, sl, sd⟩ := σ
  have hσ2 := hσ
  obtain ⟨hT, hH, hA, hS, hD, hO⟩ := hσ
  have hR : zRm M 46 w n mm cd rd := hH
  have hTx : zTx M tx len := hT
  have hn8 := hR.2.2.2.2.2.1
  have hw4 := hR.2.1
  have hlen := hTx.2.1
  have hsd : M.2 0 8 = sd := hD
  obtain ⟨o, ho14, ho, hs, hs14, has⟩ := id hA
  have hs : M.1 4 2 = nI s := hs
  have hs14 : s ≤ 14 := hs14
  obtain ⟨T, D, hTb0, hD1, hD2, hD3, hth5⟩ := hth (w, n, mm, cd, rd) true zall (zHr_v hH)
  have hTb : zTb (zunk w true) (zGr w mm true cd rd n (fun _ => true)) T D := hTb0
  have hu := zunk_le hw4.2 true
  have huw : w ≤ zunk w true := by unfold zunk; simp
  refine z_aload_n hx 0 dX5_better_0 rfl rfl ?_
  refine zg_X5_6 hx zw_180 dX5_better_1 ?_
  refine z_aload_n hx 0 dX5_better_4 rfl rfl ?_
  refine zg_X5_1 hx zw_175 dX5_better_5 ?_
  refine z_iconst hx (v := nI 1) dX5_better_8 (by decide +kernel) ?_
  refine z_callV hx (As := [.ref (E.2.2.2 46), .int (nI 1)]) (st := []) (k_X1_solves hI M (cd := cd) (rd := rd) zRoom_46 hR true hTb) zw_381 zy_X1_solves ⟨rfl, rfl⟩ (by decide) (zOB_X1 E) rfl rfl rfl rfl (Nat.le_of_ble_eq_true rfl) dX5_better_9 ?_
  rintro _ M9 ⟨v9, rfl, q9⟩
  have qf9 := q9.2
  obtain ⟨q9, -⟩ := q9
  rcases q9 with ⟨rfl, q9⟩ | ⟨rfl, q9⟩
  · skip
    show zJ E x 12 _ [.int (nI 1)] _
    have hqt : zqt (w, n, mm, cd, rd) true = some (zS w (fun k => -T (zunk w true) k k), D (zunk w true)) := zqt_of (r := (w, n, mm, cd, rd)) hD1 q9.1 (fun i hi => ((hth5 q9.1).2.2 i hi).2.2.1)
    have hg := zqt_some hth (zHr_v hH) hqt
    obtain ⟨x0, hx0⟩ : ∃ x0, x0 = zS w (fun k => -T (zunk w true) k k) := ⟨_, rfl⟩
    obtain ⟨y0, hy0⟩ : ∃ y0, y0 = D (zunk w true) := ⟨_, rfl⟩
    have hg0 : zgood (-9, x0, y0) := by rw [hx0, hy0]; exact hg
    refine z_if_ne_n (tgt := 18) hx (by decide) dX5_better_12 (by decide) (fun _ => ?_) (fun h => absurd h (by decide))
    refine z_bipush hx (v := (-9)) dX5_better_18 rfl ?_
    refine z_istore_n hx (lv2 := [(1, .int (-9)), (0, .ref (E.2.2.2 0))]) dX5_better_20 rfl (by decide) rfl ?_
    refine z_aload_n hx 1 dX5_better_21 rfl rfl ?_
    refine zg_X5_6 hx zw_180 dX5_better_22 ?_
    refine z_callV hx (As := []) (st := []) (k_X1_totalAbove hI M9 (w := w) (T := T (zunk w true)) qf9.2.1 hu huw q9.2.2) zw_434 zy_X1_totalAbove ⟨rfl, rfl⟩ (by decide) (zOB_X1 E) rfl rfl rfl rfl (Nat.le_of_ble_eq_true rfl) dX5_better_25 ?_
    rintro _ M25 ⟨v25, rfl, q25⟩
    obtain ⟨rfl, q25⟩ := q25
    rw [q25]
    show zJ E x 28 _ [.long (Int64.ofInt (zS w (fun k => -T (zunk w true) k k)))] _
    rw [← hx0]
    refine z_lstore_n hx (lv2 := [(2, .long (Int64.ofInt x0)), (1, .int (-9)), (0, .ref (E.2.2.2 0))]) dX5_better_28 rfl (by decide) rfl ?_
    refine z_aload_n hx 2 dX5_better_29 rfl rfl ?_
    refine zg_X5_6 hx zw_180 dX5_better_30 ?_
    refine zg_X1_6 hx zw_138 dX5_better_33 ?_
    refine z_eql (b := Int64.ofInt (D (zunk w true))) q9.2.1 ?_
    rw [← hy0]
    refine z_lstore hx (lv2 := [(4, .long (Int64.ofInt y0)), (2, .long (Int64.ofInt x0)), (1, .int (-9)), (0, .ref (E.2.2.2 0))]) dX5_better_36 (by decide) rfl ?_
    refine z_iconst hx (v := nI 0) dX5_better_38 (by decide +kernel) ?_
    refine z_istore hx (lv2 := [(6, .int (nI 0)), (4, .long (Int64.ofInt y0)), (2, .long (Int64.ofInt x0)), (1, .int (-9)), (0, .ref (E.2.2.2 0))]) dX5_better_39 (by decide) rfl ?_
    have loop41 : ∀ (fuel41 : Nat) (i : Nat) (N : zM) (_ : i ≤ n) (_ : zfr (fun c => c = 7 ∨ c = 10 ∨ 15 ≤ c ∧ c ≤ 26 ∨ 49 ≤ c ∧ c ≤ 51) M N) (_ : zgood (zbout (w, n, mm, cd, rd) (-9, x0, y0) i)), n - i < fuel41 → zJ E x 41 [(6, .int (nI i)), (4, .long (Int64.ofInt (zbout (w, n, mm, cd, rd) (-9, x0, y0) i).2.2)), (2, .long (Int64.ofInt (zbout (w, n, mm, cd, rd) (-9, x0, y0) i).2.1)), (1, .int ((zbout (w, n, mm, cd, rd) (-9, x0, y0) i).1)), (0, .ref (E.2.2.2 0))] [] N := by
      intro fuel41
      induction fuel41 with
      | zero =>
        intros; omega
      | succ fuel41 ih41 =>
        intro i N hi hNf hNg hfuel41
        refine z_iload hx 0 dX5_better_41 rfl ?_
        refine z_aload_n hx 4 dX5_better_43 rfl rfl ?_
        refine zg_X5_1 hx zw_175 dX5_better_44 ?_
        refine zg_X3_2 hx zRoom_46 zw_86 dX5_better_47 ?_
        refine z_eqi (b := nI n) (by rw [(hNf 46 (by omega)).1]; exact hR.2.2.2.2.1) ?_
        refine z_icmp_ge_n (tgt := 169) hx (by omega) (by omega) dX5_better_50 (by decide) (fun h50 => ?_) (fun h50 => ?_)
        · skip
          refine z_iload_n hx 3 dX5_better_169 rfl rfl ?_
          exact ri _ _ _ _ rfl ⟨_, rfl, ⟨by rw [zop_better, hqt, ← hx0, ← hy0, show i = n by omega], zCs_scr hσ2 (zfr_w hNf (fun c h => by omega))⟩⟩ dX5_better_170
        · skip
          refine z_iload hx 0 dX5_better_53 rfl ?_
          refine z_iconst hx (v := nI 1) dX5_better_55 (by decide +kernel) ?_
          refine z_iadd_n hx dX5_better_56 ?_
          refine z_istore hx (lv2 := [(7, .int (nI (i + 1))), (6, .int (nI i)), (4, .long (Int64.ofInt (zbout (w, n, mm, cd, rd) (-9, x0, y0) i).2.2)), (2, .long (Int64.ofInt (zbout (w, n, mm, cd, rd) (-9, x0, y0) i).2.1)), (1, .int ((zbout (w, n, mm, cd, rd) (-9, x0, y0) i).1)), (0, .ref (E.2.2.2 0))]) dX5_better_57 (by decide) rfl ?_
          have loop59 : ∀ (fuel59 : Nat) (m : Nat) (N2 : zM) (_ : i + 1 + m ≤ n) (_ : zfr (fun c => c = 7 ∨ c = 10 ∨ 15 ≤ c ∧ c ≤ 26 ∨ 49 ≤ c ∧ c ≤ 51) M N2) (_ : zgood (zbin (w, n, mm, cd, rd) (zbout (w, n, mm, cd, rd) (-9, x0, y0) i) i m)), n - m < fuel59 → zJ E x 59 [(7, .int (nI (i + 1 + m))), (6, .int (nI i)), (4, .long (Int64.ofInt (zbin (w, n, mm, cd, rd) (zbout (w, n, mm, cd, rd) (-9, x0, y0) i) i m).2.2)), (2, .long (Int64.ofInt (zbin (w, n, mm, cd, rd) (zbout (w, n, mm, cd, rd) (-9, x0, y0) i) i m).2.1)), (1, .int ((zbin (w, n, mm, cd, rd) (zbout (w, n, mm, cd, rd) (-9, x0, y0) i) i m).1)), (0, .ref (E.2.2.2 0))] [] N2 := by
            intro fuel59
            induction fuel59 with
            | zero =>
              intros; omega
            | succ fuel59 ih59 =>
              intro m N2 hm hKf hKg hfuel59
              refine z_iload hx 0 dX5_better_59 rfl ?_
              refine z_aload_n hx 5 dX5_better_61 rfl rfl ?_
              refine zg_X5_1 hx zw_175 dX5_better_62 ?_
              refine zg_X3_2 hx zRoom_46 zw_86 dX5_better_65 ?_
              refine z_eqi (b := nI n) (by rw [(hKf 46 (by omega)).1]; exact hR.2.2.2.2.1) ?_
              refine z_icmp_ge_n (tgt := 163) hx (by omega) (by omega) dX5_better_68 (by decide) (fun h68 => ?_) (fun h68 => ?_)
              · skip
                refine z_iinc hx (w := nI (i + 1)) (lv2 := [(6, .int (nI (i + 1))), (7, .int (nI (i + 1 + m))), (4, .long (Int64.ofInt (zbin (w, n, mm, cd, rd) (zbout (w, n, mm, cd, rd) (-9, x0, y0) i) i m).2.2)), (2, .long (Int64.ofInt (zbin (w, n, mm, cd, rd) (zbout (w, n, mm, cd, rd) (-9, x0, y0) i) i m).2.1)), (1, .int ((zbin (w, n, mm, cd, rd) (zbout (w, n, mm, cd, rd) (-9, x0, y0) i) i m).1)), (0, .ref (E.2.2.2 0))]) 1 dX5_better_163 rfl (z_inc _) (by decide) rfl ?_
                refine z_goto (tgt := 41) hx dX5_better_166 (by decide) ?_
                exact z_to (ih41 (i + 1) N2 (by omega) hKf (by rw [show zbout (w, n, mm, cd, rd) (-9, x0, y0) (i + 1) = zbin (w, n, mm, cd, rd) (zbout (w, n, mm, cd, rd) (-9, x0, y0) i) i m by rw [zbout, show n - (i + 1) = m by omega]]; exact hKg) (by omega)) [0, 2, 3, 4, 5] (by rw [show zbout (w, n, mm, cd, rd) (-9, x0, y0) (i + 1) = zbin (w, n, mm, cd, rd) (zbout (w, n, mm, cd, rd) (-9, x0, y0) i) i m by rw [zbout, show n - (i + 1) = m by omega]]; rfl) rfl
              · skip
                refine z_aload_n hx 5 dX5_better_71 rfl rfl ?_
                refine zg_X5_2 hx zw_176 dX5_better_72 ?_
                refine z_aload_n hx 5 dX5_better_75 rfl rfl ?_
                refine zg_X5_1 hx zw_175 dX5_better_76 ?_
                refine z_callV hx (As := [.ref (E.2.2.2 46)]) (st := []) (k_X3_copy hI N2 (a := 49) (b := 46) zRoom_49 zRoom_46 (by omega)) zw_460 zy_X3_copy ⟨rfl, rfl⟩ (by decide) (zOB_room zRoom_49 E) rfl rfl rfl rfl (Nat.le_of_ble_eq_true rfl) dX5_better_79 ?_
                rintro _ M79 ⟨rfl, q79⟩
                show zJ E x 82 _ [] _
                have hRc : zRm M79 49 w n mm cd rd := zRm_eq ⟨q79.1, q79.2.1⟩ (zRm_fr hR hKf (by omega) (by omega) (by omega))
                refine z_aload_n hx 5 dX5_better_82 rfl rfl ?_
                refine zg_X5_2 hx zw_176 dX5_better_83 ?_
                refine z_iload hx 1 dX5_better_86 rfl ?_
                refine z_iload hx 0 dX5_better_88 rfl ?_
                refine z_callV hx (As := [.int (nI i), .int (nI (i + 1 + m))]) (st := []) (k_X3_exchange hI M79 zRoom_49 (i := i) (j := i + 1 + m) (by omega) (by omega) (by omega)) zw_325 zy_X3_exchange ⟨rfl, rfl⟩ (by decide) (zOB_room zRoom_49 E) rfl rfl rfl rfl (Nat.le_of_ble_eq_true rfl) dX5_better_90 ?_
                rintro _ M90 ⟨rfl, q90⟩
                subst q90
                show zJ E x 93 _ [] _
                have hRe : zRm (zputI (zputI (zputI (zputI M79 (49 + 1) i (M79.1 (49 + 1) (i + 1 + m))) (49 + 2) i (M79.1 (49 + 2) (i + 1 + m))) (49 + 1) (i + 1 + m) (M79.1 (49 + 1) i)) (49 + 2) (i + 1 + m) (M79.1 (49 + 2) i)) 49 w n mm (zexch cd i (i + 1 + m)) (zexch rd i (i + 1 + m)) := zRm_exch hRc (by omega) (by omega) (by omega)
                have hvs : zVr (zswp (w, n, mm, cd, rd) i (i + 1 + m)) := zVr_swp (zHr_v hH) (by show i < n; omega) (by show i + 1 + m < n; omega)
                obtain ⟨T1, D1, hT1, e1, e2, e3, e5⟩ := hth (zswp (w, n, mm, cd, rd) i (i + 1 + m)) true zall hvs
                have hT1 : zTb (zunk w true) (zGr w mm true (zexch cd i (i + 1 + m)) (zexch rd i (i + 1 + m)) n (fun _ => true)) T1 D1 := hT1
                have e2 : 0 ≤ D1 (zunk w true) := e2
                have e3 : D1 (zunk w true) ≤ 600000 := e3
                refine z_aload_n hx 5 dX5_better_93 rfl rfl ?_
                refine zg_X5_6 hx zw_180 dX5_better_94 ?_
                refine z_aload_n hx 5 dX5_better_97 rfl rfl ?_
                refine zg_X5_2 hx zw_176 dX5_better_98 ?_
                refine z_iconst hx (v := nI 1) dX5_better_101 (by decide +kernel) ?_
                refine z_callV hx (As := [.ref (E.2.2.2 49), .int (nI 1)]) (st := []) (k_X1_solves hI (zputI (zputI (zputI (zputI M79 (49 + 1) i (M79.1 (49 + 1) (i + 1 + m))) (49 + 2) i (M79.1 (49 + 2) (i + 1 + m))) (49 + 1) (i + 1 + m) (M79.1 (49 + 1) i)) (49 + 2) (i + 1 + m) (M79.1 (49 + 2) i)) (cd := zexch cd i (i + 1 + m)) (rd := zexch rd i (i + 1 + m)) zRoom_49 hRe true hT1) zw_381 zy_X1_solves ⟨rfl, rfl⟩ (by decide) (zOB_X1 E) rfl rfl rfl rfl (Nat.le_of_ble_eq_true rfl) dX5_better_102 ?_
                rintro _ M102 ⟨v102, rfl, q102⟩
                have qf102 := q102.2
                obtain ⟨q102, -⟩ := q102
                rcases q102 with ⟨rfl, q102⟩ | ⟨rfl, q102⟩
                · skip
                  show zJ E x 105 _ [.int (nI 1)] _
                  have hqt1 : zqt (zswp (w, n, mm, cd, rd) i (i + 1 + m)) true = some (zS w (fun k => -T1 (zunk w true) k k), D1 (zunk w true)) := zqt_of (r := (zswp (w, n, mm, cd, rd) i (i + 1 + m))) e1 q102.1 (fun i hi => ((e5 q102.1).2.2 i hi).2.2.1)
                  have hg1 := zqt_some hth hvs hqt1
                  refine z_if_eq_n (tgt := 157) hx (by decide) dX5_better_105 (by decide) (fun h => absurd h (by decide)) (fun _ => ?_)
                  refine z_aload_n hx 5 dX5_better_108 rfl rfl ?_
                  refine zg_X5_6 hx zw_180 dX5_better_109 ?_
                  refine z_callV hx (As := []) (st := []) (k_X1_totalAbove hI M102 (w := w) (T := T1 (zunk w true)) qf102.2.1 hu huw q102.2.2) zw_434 zy_X1_totalAbove ⟨rfl, rfl⟩ (by decide) (zOB_X1 E) rfl rfl rfl rfl (Nat.le_of_ble_eq_true rfl) dX5_better_112 ?_
                  rintro _ M112 ⟨v112, rfl, q112⟩
                  obtain ⟨rfl, q112⟩ := q112
                  rw [q112]
                  show zJ E x 115 _ [.long (Int64.ofInt (zS w (fun k => -T1 (zunk w true) k k)))] _
                  refine z_aload_n hx 5 dX5_better_115 rfl rfl ?_
                  refine zg_X5_6 hx zw_180 dX5_better_116 ?_
                  refine zg_X1_6 hx zw_138 dX5_better_119 ?_
                  refine z_eql (b := Int64.ofInt (D1 (zunk w true))) q102.2.1 ?_
                  refine z_lload_n hx 3 dX5_better_122 rfl rfl ?_
                  refine z_lload hx 2 dX5_better_123 rfl ?_
                  refine z_callS hx (As := [.long (Int64.ofInt (zS w (fun k => -T1 (zunk w true) k k))), .long (Int64.ofInt (D1 (zunk w true))), .long (Int64.ofInt (zbin (w, n, mm, cd, rd) (zbout (w, n, mm, cd, rd) (-9, x0, y0) i) i m).2.1), .long (Int64.ofInt (zbin (w, n, mm, cd, rd) (zbout (w, n, mm, cd, rd) (-9, x0, y0) i) i m).2.2)]) (st := []) (k_X5_isLess hI M102 (Int64.ofInt (zS w (fun k => -T1 (zunk w true) k k))) (Int64.ofInt (D1 (zunk w true))) (Int64.ofInt (zbin (w, n, mm, cd, rd) (zbout (w, n, mm, cd, rd) (-9, x0, y0) i) i m).2.1) (Int64.ofInt (zbin (w, n, mm, cd, rd) (zbout (w, n, mm, cd, rd) (-9, x0, y0) i) i m).2.2)) zw_472 zy_X5_isLess ⟨rfl, rfl⟩ (by decide) rfl rfl (Nat.le_of_ble_eq_true rfl) dX5_better_125 ?_
                  rintro _ M125 ⟨v125, rfl, q125⟩
                  obtain ⟨q125, q125m⟩ := q125
                  rw [q125m]
                  rcases q125 with ⟨q125, rfl⟩ | ⟨q125, rfl⟩
                  · skip
                    show zJ E x 128 _ [.int (nI 1)] _
                    have hlt := q125
                    rw [zI64_mul, zI64_mul, zlt64 (zab_rg (zab_mul2 (by decide) (by decide) hg1.1 (show zab (zbin (w, n, mm, cd, rd) (zbout (w, n, mm, cd, rd) (-9, x0, y0) i) i m).2.2 600000 by have := hKg.2.1; have := hKg.2.2; unfold zab; omega)) (by decide)) (zab_rg (zab_mul2 (by decide) (by decide) hKg.1 (show zab (D1 (zunk w true)) 600000 by unfold zab; omega)) (by decide))] at hlt
                    have hst : zbin (w, n, mm, cd, rd) (zbout (w, n, mm, cd, rd) (-9, x0, y0) i) i (m + 1) = (nI (10 * i + (i + 1 + m)), zS w (fun k => -T1 (zunk w true) k k), D1 (zunk w true)) := by rw [zbin, hqt1]; exact if_pos hlt
                    refine z_if_eq_n (tgt := 157) hx (by decide) dX5_better_128 (by decide) (fun h => absurd h (by decide)) (fun _ => ?_)
                    refine z_bipush hx (v := nI 10) dX5_better_131 (by decide +kernel) ?_
                    refine z_iload hx 1 dX5_better_133 rfl ?_
                    refine z_imul_n hx dX5_better_135 ?_
                    refine z_iload hx 0 dX5_better_136 rfl ?_
                    refine z_iadd_n hx dX5_better_138 ?_
                    refine z_istore_n hx (lv2 := [(1, .int (nI ((10 * i) + (i + 1 + m)))), (7, .int (nI (i + 1 + m))), (6, .int (nI i)), (4, .long (Int64.ofInt (zbin (w, n, mm, cd, rd) (zbout (w, n, mm, cd, rd) (-9, x0, y0) i) i m).2.2)), (2, .long (Int64.ofInt (zbin (w, n, mm, cd, rd) (zbout (w, n, mm, cd, rd) (-9, x0, y0) i) i m).2.1)), (0, .ref (E.2.2.2 0))]) dX5_better_139 rfl (by decide) rfl ?_
                    refine z_aload_n hx 5 dX5_better_140 rfl rfl ?_
                    refine zg_X5_6 hx zw_180 dX5_better_141 ?_
                    refine z_callV hx (As := []) (st := []) (k_X1_totalAbove hI M102 (w := w) (T := T1 (zunk w true)) qf102.2.1 hu huw q102.2.2) zw_434 zy_X1_totalAbove ⟨rfl, rfl⟩ (by decide) (zOB_X1 E) rfl rfl rfl rfl (Nat.le_of_ble_eq_true rfl) dX5_better_144 ?_
                    rintro _ M144 ⟨v144, rfl, q144⟩
                    obtain ⟨rfl, q144⟩ := q144
                    rw [q144]
                    show zJ E x 147 _ [.long (Int64.ofInt (zS w (fun k => -T1 (zunk w true) k k)))] _
                    refine z_lstore_n hx (lv2 := [(2, .long (Int64.ofInt (zS w (fun k => -T1 (zunk w true) k k)))), (1, .int (nI ((10 * i) + (i + 1 + m)))), (7, .int (nI (i + 1 + m))), (6, .int (nI i)), (4, .long (Int64.ofInt (zbin (w, n, mm, cd, rd) (zbout (w, n, mm, cd, rd) (-9, x0, y0) i) i m).2.2)), (0, .ref (E.2.2.2 0))]) dX5_better_147 rfl (by decide) rfl ?_
                    refine z_aload_n hx 5 dX5_better_148 rfl rfl ?_
                    refine zg_X5_6 hx zw_180 dX5_better_149 ?_
                    refine zg_X1_6 hx zw_138 dX5_better_152 ?_
                    refine z_eql (b := Int64.ofInt (D1 (zunk w true))) q102.2.1 ?_
                    refine z_lstore hx (lv2 := [(4, .long (Int64.ofInt (D1 (zunk w true)))), (2, .long (Int64.ofInt (zS w (fun k => -T1 (zunk w true) k k)))), (1, .int (nI ((10 * i) + (i + 1 + m)))), (7, .int (nI (i + 1 + m))), (6, .int (nI i)), (0, .ref (E.2.2.2 0))]) dX5_better_155 (by decide) rfl ?_
                    refine z_iinc hx (w := nI (i + 1 + m + 1)) (lv2 := [(7, .int (nI (i + 1 + m + 1))), (4, .long (Int64.ofInt (D1 (zunk w true)))), (2, .long (Int64.ofInt (zS w (fun k => -T1 (zunk w true) k k)))), (1, .int (nI ((10 * i) + (i + 1 + m)))), (6, .int (nI i)), (0, .ref (E.2.2.2 0))]) 3 dX5_better_157 rfl (z_inc _) (by decide) rfl ?_
                    refine z_goto (tgt := 59) hx dX5_better_160 (by decide) ?_
                    exact z_to (ih59 (m + 1) M102 (by omega) (zfr_tr hKf (zfr_tr (zfr_w q79.2.2 (fun c h => by omega)) (zfr_tr (zfr_tr (zfr_tr (zfr_tr (zfr_putI (by omega)) (zfr_putI (by omega))) (zfr_putI (by omega))) (zfr_putI (by omega))) (zfr_w qf102.2.2.2 (fun c h => by omega))))) (zbs1_good hKg (fun x y e => zqt_some hth hvs e)) (by omega)) [0, 4, 1, 2, 3, 5] (by rw [show zbin (w, n, mm, cd, rd) (zbout (w, n, mm, cd, rd) (-9, x0, y0) i) i (m + 1) = _ from hst]; rfl) rfl
                  · skip
                    show zJ E x 128 _ [.int (nI 0)] _
                    have hlt := q125
                    rw [zI64_mul, zI64_mul, zlt64 (zab_rg (zab_mul2 (by decide) (by decide) hg1.1 (show zab (zbin (w, n, mm, cd, rd) (zbout (w, n, mm, cd, rd) (-9, x0, y0) i) i m).2.2 600000 by have := hKg.2.1; have := hKg.2.2; unfold zab; omega)) (by decide)) (zab_rg (zab_mul2 (by decide) (by decide) hKg.1 (show zab (D1 (zunk w true)) 600000 by unfold zab; omega)) (by decide))] at hlt
                    have hst : zbin (w, n, mm, cd, rd) (zbout (w, n, mm, cd, rd) (-9, x0, y0) i) i (m + 1) = zbin (w, n, mm, cd, rd) (zbout (w, n, mm, cd, rd) (-9, x0, y0) i) i m := by rw [zbin, hqt1]; exact if_neg hlt
                    refine z_if_eq_n (tgt := 157) hx (by decide) dX5_better_128 (by decide) (fun _ => ?_) (fun h => absurd h (by decide))
                    refine z_iinc hx (w := nI (i + 1 + m + 1)) (lv2 := [(7, .int (nI (i + 1 + m + 1))), (6, .int (nI i)), (4, .long (Int64.ofInt (zbin (w, n, mm, cd, rd) (zbout (w, n, mm, cd, rd) (-9, x0, y0) i) i m).2.2)), (2, .long (Int64.ofInt (zbin (w, n, mm, cd, rd) (zbout (w, n, mm, cd, rd) (-9, x0, y0) i) i m).2.1)), (1, .int ((zbin (w, n, mm, cd, rd) (zbout (w, n, mm, cd, rd) (-9, x0, y0) i) i m).1)), (0, .ref (E.2.2.2 0))]) 0 dX5_better_157 rfl (z_inc _) (by decide) rfl ?_
                    refine z_goto (tgt := 59) hx dX5_better_160 (by decide) ?_
                    exact z_to (ih59 (m + 1) M102 (by omega) (zfr_tr hKf (zfr_tr (zfr_w q79.2.2 (fun c h => by omega)) (zfr_tr (zfr_tr (zfr_tr (zfr_tr (zfr_putI (by omega)) (zfr_putI (by omega))) (zfr_putI (by omega))) (zfr_putI (by omega))) (zfr_w qf102.2.2.2 (fun c h => by omega))))) (zbs1_good hKg (fun x y e => zqt_some hth hvs e)) (by omega)) [0, 1, 2, 3, 4, 5] (by rw [show zbin (w, n, mm, cd, rd) (zbout (w, n, mm, cd, rd) (-9, x0, y0) i) i (m + 1) = _ from hst]; rfl) rfl
                · skip
                  show zJ E x 105 _ [.int (nI 0)] _
                  have hqt1 : zqt (zswp (w, n, mm, cd, rd) i (i + 1 + m)) true = none := zqt_no (r := (zswp (w, n, mm, cd, rd) i (i + 1 + m))) e1 q102
                  have hst : zbin (w, n, mm, cd, rd) (zbout (w, n, mm, cd, rd) (-9, x0, y0) i) i (m + 1) = zbin (w, n, mm, cd, rd) (zbout (w, n, mm, cd, rd) (-9, x0, y0) i) i m := by rw [zbin, hqt1]; rfl
                  refine z_if_eq_n (tgt := 157) hx (by decide) dX5_better_105 (by decide) (fun _ => ?_) (fun h => absurd h (by decide))
                  refine z_iinc hx (w := nI (i + 1 + m + 1)) (lv2 := [(7, .int (nI (i + 1 + m + 1))), (6, .int (nI i)), (4, .long (Int64.ofInt (zbin (w, n, mm, cd, rd) (zbout (w, n, mm, cd, rd) (-9, x0, y0) i) i m).2.2)), (2, .long (Int64.ofInt (zbin (w, n, mm, cd, rd) (zbout (w, n, mm, cd, rd) (-9, x0, y0) i) i m).2.1)), (1, .int ((zbin (w, n, mm, cd, rd) (zbout (w, n, mm, cd, rd) (-9, x0, y0) i) i m).1)), (0, .ref (E.2.2.2 0))]) 0 dX5_better_157 rfl (z_inc _) (by decide) rfl ?_
                  refine z_goto (tgt := 59) hx dX5_better_160 (by decide) ?_
                  exact z_to (ih59 (m + 1) M102 (by omega) (zfr_tr hKf (zfr_tr (zfr_w q79.2.2 (fun c h => by omega)) (zfr_tr (zfr_tr (zfr_tr (zfr_tr (zfr_putI (by omega)) (zfr_putI (by omega))) (zfr_putI (by omega))) (zfr_putI (by omega))) (zfr_w qf102.2.2.2 (fun c h => by omega))))) (zbs1_good hKg (fun x y e => zqt_some hth hvs e)) (by omega)) [0, 1, 2, 3, 4, 5] (by rw [show zbin (w, n, mm, cd, rd) (zbout (w, n, mm, cd, rd) (-9, x0, y0) i) i (m + 1) = _ from hst]; rfl) rfl
          exact z_to (loop59 _ 0 N (by omega) hNf hNg (Nat.lt_succ_self _)) [0, 1, 2, 3, 4, 5] rfl rfl
    exact z_to (loop41 _ 0 M9 (Nat.zero_le _) (zfr_w qf9.2.2.2 (fun c h => by omega)) hg0 (Nat.lt_succ_self _)) [0, 1, 2, 3, 4] rfl rfl
  · skip
    show zJ E x 12 _ [.int (nI 0)] _
    have hqt : zqt (w, n, mm, cd, rd) true = none := zqt_no (r := (w, n, mm, cd, rd)) hD1 q9
    refine z_if_ne_n (tgt := 18) hx (by decide) dX5_better_12 (by decide) (fun h => absurd h (by decide)) (fun _ => ?_)
    refine z_bipush hx (v := (-3)) dX5_better_15 rfl ?_
    exact ri _ _ _ _ rfl ⟨_, rfl, ⟨by rw [zop_better, hqt], zCs_scr hσ2 (zfr_w qf9.2.2.2 (fun c h => by omega))⟩⟩ dX5_better_17
