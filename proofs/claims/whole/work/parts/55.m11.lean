abbrev zfL (M M2 : zM) : Prop := zfm (fun c => 41 ≤ c ∧ c ≤ 45) (fun k => k = 15 ∨ k = 18 ∨ k = 22 ∨ k = 23) M M2
theorem zful_8 : ∀ n, n < 9 → ∀ t, t < n → (2 ^ n - 1) / 2 ^ t % 2 = 1 := by decide +kernel
theorem zGm_al {r : zRo} (d : Bool) (h : r.2.1 ≤ 8) : zGm r d (zst (2 ^ r.2.1 - 1)) = zGm r d zall := by
  funext p q
  refine zS_cong (fun t ht => ?_)
  rw [show zst (2 ^ r.2.1 - 1) t = true from decide_eq_true (zful_8 _ (by omega) t ht)]
  rfl
theorem zbut_8 : ∀ n, n < 9 → ∀ j, j < n → ∀ t, t < n → ((2 ^ n - 1 - 2 ^ j) / 2 ^ t % 2 = 1 ↔ ¬ t = j) := by decide +kernel
theorem zGm_bt {r : zRo} (d : Bool) (h : r.2.1 ≤ 8) {j : Nat} (hj : j < r.2.1) : zGm r d (zst (2 ^ r.2.1 - 1 - 2 ^ j)) = zGm r d (zbut j) := by
  funext p q
  refine zS_cong (fun t ht => ?_)
  have e : zst (2 ^ r.2.1 - 1 - 2 ^ j) t = zbut j t := by
    unfold zst zbut
    by_cases z : t = j
    · rw [decide_eq_false (fun y => (zbut_8 _ (by omega) j hj t ht).mp y z), decide_eq_true z]
      rfl
    · rw [decide_eq_true ((zbut_8 _ (by omega) j hj t ht).mpr z), decide_eq_false z]
      rfl
  rw [e]
theorem zdna {z : Int} (h : 0 ≤ z) : Int64.ofInt z = Int64.ofInt ((z.natAbs : Nat) : Int) := by congr 1; omega
theorem zmsk8 : ∀ n, n < 9 → ∀ i, i < n → nI (2 ^ n - 1) &&& ((nI 1 <<< (nI i &&& 31)) ^^^ (-1)) = nI (2 ^ n - 1 - 2 ^ i) := by decide +kernel
set_option maxHeartbeats 4000000 in
set_option maxRecDepth 100000 in
theorem k_X6_isLaid {E : zE} (hI : zI E) (M : zM) {p w n mm : Nat} {cd : Nat → Nat} {rd : Nat → Int} (hp : zPc p) (hR : zPr M p (w, n, mm, cd, rd)) {s : Nat} (hs : s < 256) (d : Bool) : zK E yX6_isLaid (.code yX6_isLaid cX6_isLaid 4 (some .boolean)) (zrm 4 98) [.ref (E.2.2.2 32), .ref (E.2.2.2 p), .int (nI s), .int (zdr d)] M (zpi (fun v M2 => ((¬ zdet (zunk w d) (zGm (w, n, mm, cd, rd) d (zst s)) = 0 ∧ v = nI 1) ∨ (zdet (zunk w d) (zGm (w, n, mm, cd, rd) d (zst s)) = 0 ∧ v = nI 0)) ∧ zGt M2 (zunk w d) (zGm (w, n, mm, cd, rd) d (zst s)) ∧ zfL M M2)) := by
  refine zK_of hI (by decide) (Nat.le_of_ble_eq_true rfl) (fun x hx ri rz rl rv => ?_)
  show zJ E x 0 [(0, .ref (E.2.2.2 32)), (1, .ref (E.2.2.2 p)), (2, .int (nI s)), (3, .int (zdr d))] [] M
  have hp2 := id hp
  unfold zPc at hp2
  have hW : M.1 32 4 = nI w := hR.1
  have hP0 : M.1 p 0 = nI mm := hR.2.1.1
  have hP1 : M.1 p 1 = nI n := hR.2.1.2.1
  have hPt : ∀ t, t < n → M.1 p (2 + t) = nI (cd t) ∧ M.1 p (10 + t) = Int32.ofInt (rd t) := hR.2.1.2.2
  have hw4 : 1 ≤ w ∧ w ≤ 4 := hR.2.2.1
  have hmm9 : mm ≤ 99 := hR.2.2.2.1
  have hn8 : n ≤ 8 := hR.2.2.2.2.1
  have hV : ∀ t, t < n → zcode w (cd t) ∧ -1000 ≤ rd t ∧ rd t ≤ 1000 := hR.2.2.2.2.2
  have hu := zunk_le hw4.2 d
  have hDD : 0 ≤ zdet (zunk w d) (zGm (w, n, mm, cd, rd) d (zst s)) ∧ zdet (zunk w d) (zGm (w, n, mm, cd, rd) d (zst s)) ≤ 600000 := zD_in (r := (w, n, mm, cd, rd)) hR.2.2 d (zst s)
  refine z_aload_n hx 0 dX6_isLaid_0 rfl rfl ?_
  refine z_aload_n hx 1 dX6_isLaid_1 rfl rfl ?_
  refine z_iload_n hx 2 dX6_isLaid_2 rfl rfl ?_
  refine z_iload_n hx 3 dX6_isLaid_3 rfl rfl ?_
  refine z_callV hx (As := [.ref (E.2.2.2 p), .int (nI s), .int (zdr d)]) (st := []) (k_X6_layGram hI M hp hR hs d) zw_759 zy_X6_layGram ⟨rfl, rfl⟩ (by decide) (zOB_X6 E) rfl rfl rfl rfl (Nat.le_of_ble_eq_true rfl) dX6_isLaid_4 ?_
  rintro _ M4 ⟨rfl, q4⟩
  show zJ E x 7 _ [] _
  refine z_aload_n hx 0 dX6_isLaid_7 rfl rfl ?_
  refine z_aload_n hx 0 dX6_isLaid_8 rfl rfl ?_
  refine z_callV hx (As := []) (st := [.ref (E.2.2.2 32)]) (k_X6_columns hI M4 hu q4.1.1) zw_777 zy_X6_columns ⟨rfl, rfl⟩ (by decide) (zOB_X6 E) rfl rfl rfl rfl (Nat.le_of_ble_eq_true rfl) dX6_isLaid_9 ?_
  rintro _ M9 ⟨v9, rfl, q9⟩
  obtain ⟨rfl, q9⟩ := q9
  rw [q9]
  show zJ E x 12 _ [.int (nI (2 ^ zunk w d - 1)), .ref (E.2.2.2 32)] _
  refine z_bipush hx (v := (-9)) dX6_isLaid_12 rfl ?_
  refine z_callV hx (As := [.int (nI (2 ^ zunk w d - 1)), .int (-9)]) (st := []) (kc_mf hI M4 (r := (w, n, mm, cd, rd)) hR.2.2 q4.1) zw_784 zy_X6_minor ⟨rfl, rfl⟩ (by decide) (zOB_X6 E) rfl rfl rfl rfl (Nat.le_of_ble_eq_true rfl) dX6_isLaid_14 ?_
  rintro _ M14 ⟨v14, rfl, q14⟩
  obtain ⟨rfl, q14⟩ := q14
  have hG14 : zGt M14 (zunk w d) (zGm (w, n, mm, cd, rd) d (zst s)) := zGt_fr q4.1 (zfm_of (ks := fun _ => False) q14 (by omega)) (by omega) (by omega) (fun z => z) (fun z => z)
  have hf14 : zfL M M14 := zfm_tr (zfm_w q4.2 (fun c z => by omega) (fun k z => by omega)) (zfm_of (zfr_w q14 (fun c z => by omega)) (by omega))
  show zJ E x 17 _ [.long (Int64.ofInt (zdet (zunk w d) (zGm (w, n, mm, cd, rd) d (zst s))))] _
  refine z_lconst hx (v := 0) dX6_isLaid_17 rfl ?_
  refine z_lcmp hx dX6_isLaid_18 ?_
  refine z_if_eq (tgt := 26) hx dX6_isLaid_19 (by decide) (fun h19 => ?_) (fun h19 => ?_)
  · skip
    refine z_iconst hx (v := nI 0) dX6_isLaid_26 (by decide +kernel) ?_
    exact rz _ _ _ _ rfl (Or.inl rfl) ⟨_, rfl, ⟨Or.inr ⟨(zeq64 ⟨by omega, by omega⟩ ⟨by decide, by decide⟩).mp ((zcmp0 h19).trans (by decide +kernel)), rfl⟩, hG14, hf14⟩⟩ dX6_isLaid_27
  · skip
    refine z_iconst hx (v := nI 1) dX6_isLaid_22 (by decide +kernel) ?_
    refine z_goto (tgt := 27) hx dX6_isLaid_23 (by decide) ?_
    exact rz _ _ _ _ rfl (Or.inr rfl) ⟨_, rfl, ⟨Or.inl ⟨fun z => h19 (by rw [z]; decide +kernel), rfl⟩, hG14, hf14⟩⟩ dX6_isLaid_27
set_option maxHeartbeats 4000000 in
set_option maxRecDepth 100000 in
theorem k_X6_layTotal {E : zE} (hI : zI E) (M : zM) {r : zRo} (hv : zVr r) {d : Bool} {S : Nat → Bool} (hG : zGt M (zunk r.1 d) (zGm r d S)) (hpos : ¬ zdet (zunk r.1 d) (zGm r d S) = 0) (hW : M.1 32 4 = nI r.1) : zK E yX6_layTotal (.code yX6_layTotal cX6_layTotal 4 none) (zrm 2 55) [.ref (E.2.2.2 32)] M (zpv (fun M2 => M2.2 32 22 = Int64.ofInt (zTold (zS r.1 (fun k => zMin (zGm r d S) (zunk r.1 d) k)) (zdet (zunk r.1 d) (zGm r d S)).natAbs true) ∧ M2.2 32 23 = Int64.ofInt (zTold (zS r.1 (fun k => zMin (zGm r d S) (zunk r.1 d) k)) (zdet (zunk r.1 d) (zGm r d S)).natAbs false) ∧ zGt M2 (zunk r.1 d) (zGm r d S) ∧ zfL M M2)) := by
  refine zK_of hI (by decide) (Nat.le_of_ble_eq_true rfl) (fun x hx ri rz rl rv => ?_)
  show zJ E x 0 [(0, .ref (E.2.2.2 32))] [] M
  have hu := zunk_le hv.1.2 d
  have hDD := zD_in hv d S
  have hwu : r.1 ≤ zunk r.1 d := by unfold zunk; split <;> omega
  have htot : zrg (zS r.1 (fun k => zMin (zGm r d S) (zunk r.1 d) k)) := by
      have h := zS_ab (b := 1000000) (by decide) (n := r.1) (f := fun k => zMin (zGm r d S) (zunk r.1 d) k) (fun k hk => zGm_min hv d S (by omega))
      have := hv.1.2
      unfold zab at h; unfold zrg; omega
  refine z_lconst hx (v := 0) dX6_layTotal_0 rfl ?_
  refine z_lstore_n hx (lv2 := [(1, .long 0), (0, .ref (E.2.2.2 32))]) dX6_layTotal_1 rfl (by decide) rfl ?_
  refine z_iconst hx (v := nI 0) dX6_layTotal_2 (by decide +kernel) ?_
  refine z_istore_n hx (lv2 := [(3, .int (nI 0)), (1, .long 0), (0, .ref (E.2.2.2 32))]) dX6_layTotal_3 rfl (by decide) rfl ?_
  have loop4 : ∀ (fuel4 : Nat) (i : Nat) (N : zM) (_ : i ≤ r.1) (_ : zfr (fun c => c = 43 ∨ c = 44) M N), r.1 - i < fuel4 → zJ E x 4 [(3, .int (nI i)), (1, .long (Int64.ofInt (zS i (fun k => zMin (zGm r d S) (zunk r.1 d) k)))), (0, .ref (E.2.2.2 32))] [] N := by
    intro fuel4
    induction fuel4 with
    | zero =>
      intros; omega
    | succ fuel4 ih4 =>
      intro i N hi hNf hfuel4
      refine z_iload_n hx 0 dX6_layTotal_4 rfl rfl ?_
      refine z_aload_n hx 2 dX6_layTotal_5 rfl rfl ?_
      refine zg_X6_4 hx zw_580 dX6_layTotal_6 ?_
      refine z_eqi (b := nI r.1) (by rw [(hNf 32 (by omega)).1]; exact hW) ?_
      refine z_icmp_ge_n (tgt := 37) hx (by omega) (by omega) dX6_layTotal_9 (by decide) (fun h9 => ?_) (fun h9 => ?_)
      · skip
        refine z_aload_n hx 2 dX6_layTotal_37 rfl rfl ?_
        refine z_lload_n hx 1 dX6_layTotal_38 rfl rfl ?_
        refine z_aload_n hx 2 dX6_layTotal_39 rfl rfl ?_
        refine z_aload_n hx 2 dX6_layTotal_40 rfl rfl ?_
        refine z_callV hx (As := []) (st := [.ref (E.2.2.2 32), .long (Int64.ofInt (zS i (fun k => zMin (zGm r d S) (zunk r.1 d) k))), .ref (E.2.2.2 32)]) (k_X6_columns hI N hu (zGt_fr hG (zfm_of (ks := fun _ => False) hNf (by omega)) (by omega) (by omega) (fun z => z) (fun z => z)).1) zw_777 zy_X6_columns ⟨rfl, rfl⟩ (by decide) (zOB_X6 E) rfl rfl rfl rfl (Nat.le_of_ble_eq_true rfl) dX6_layTotal_41 ?_
        rintro _ M41 ⟨v41, rfl, q41⟩
        obtain ⟨rfl, q41⟩ := q41
        rw [q41]
        show zJ E x 44 _ [.int (nI (2 ^ zunk r.1 d - 1)), .ref (E.2.2.2 32), .long (Int64.ofInt (zS i (fun k => zMin (zGm r d S) (zunk r.1 d) k))), .ref (E.2.2.2 32)] _
        refine z_bipush hx (v := (-9)) dX6_layTotal_44 rfl ?_
        have ei : i = r.1 := by omega
        refine z_callV hx (As := [.int (nI (2 ^ zunk r.1 d - 1)), .int (-9)]) (st := [.long (Int64.ofInt (zS i (fun k => zMin (zGm r d S) (zunk r.1 d) k))), .ref (E.2.2.2 32)]) (kc_mf hI N hv (zGt_fr hG (zfm_of (ks := fun _ => False) hNf (by omega)) (by omega) (by omega) (fun z => z) (fun z => z))) zw_784 zy_X6_minor ⟨rfl, rfl⟩ (by decide) (zOB_X6 E) rfl rfl rfl rfl (Nat.le_of_ble_eq_true rfl) dX6_layTotal_46 ?_
        rintro _ M46 ⟨v46, rfl, q46⟩
        obtain ⟨rfl, q46⟩ := q46
        show zJ E x 49 _ [.long (Int64.ofInt (zdet (zunk r.1 d) (zGm r d S))), .long (Int64.ofInt (zS i (fun k => zMin (zGm r d S) (zunk r.1 d) k))), .ref (E.2.2.2 32)] _
        rw [show i = r.1 by omega]
        refine z_eql (b := Int64.ofInt (((zdet (zunk r.1 d) (zGm r d S)).natAbs : Nat) : Int)) (zdna hDD.1) ?_
        refine z_callV hx (As := [.long (Int64.ofInt (zS r.1 (fun k => zMin (zGm r d S) (zunk r.1 d) k))), .long (Int64.ofInt (((zdet (zunk r.1 d) (zGm r d S)).natAbs : Nat) : Int))]) (st := []) (k_X6_layFraction hI M46 (zS r.1 (fun k => zMin (zGm r d S) (zunk r.1 d) k)) (zdet (zunk r.1 d) (zGm r d S)).natAbs htot (by omega) (by omega)) zw_806 zy_X6_layFraction ⟨rfl, rfl⟩ (by decide) (zOB_X6 E) rfl rfl rfl rfl (Nat.le_of_ble_eq_true rfl) dX6_layTotal_49 ?_
        rintro _ M49 ⟨rfl, q49⟩
        show zJ E x 52 _ [] _
        exact rv _ _ _ rfl ⟨rfl, ⟨q49.1, q49.2.1, zGt_fr (zGt_fr (zGt_fr hG (zfm_of (ks := fun _ => False) hNf (by omega)) (by omega) (by omega) (fun z => z) (fun z => z)) (zfm_of (ks := fun _ => False) q46 (by omega)) (by omega) (by omega) (fun z => z) (fun z => z)) q49.2.2 (fun z => z) (fun z => z) (by omega) (by omega), zfm_tr (zfm_of (zfr_w (zfr_tr hNf q46) (fun c z => by omega)) (by omega)) (zfm_w q49.2.2 (fun c z => False.elim z) (fun k z => by omega))⟩⟩ dX6_layTotal_52
      · skip
        refine z_lload_n hx 1 dX6_layTotal_12 rfl rfl ?_
        refine z_aload_n hx 2 dX6_layTotal_13 rfl rfl ?_
        refine z_aload_n hx 2 dX6_layTotal_14 rfl rfl ?_
        refine z_callV hx (As := []) (st := [.ref (E.2.2.2 32), .long (Int64.ofInt (zS i (fun k => zMin (zGm r d S) (zunk r.1 d) k)))]) (k_X6_columns hI N hu (zGt_fr hG (zfm_of (ks := fun _ => False) hNf (by omega)) (by omega) (by omega) (fun z => z) (fun z => z)).1) zw_777 zy_X6_columns ⟨rfl, rfl⟩ (by decide) (zOB_X6 E) rfl rfl rfl rfl (Nat.le_of_ble_eq_true rfl) dX6_layTotal_15 ?_
        rintro _ M15 ⟨v15, rfl, q15⟩
        obtain ⟨rfl, q15⟩ := q15
        rw [q15]
        show zJ E x 18 _ [.int (nI (2 ^ zunk r.1 d - 1)), .ref (E.2.2.2 32), .long (Int64.ofInt (zS i (fun k => zMin (zGm r d S) (zunk r.1 d) k)))] _
        refine z_iconst hx (v := nI 1) dX6_layTotal_18 (by decide +kernel) ?_
        refine z_iload_n hx 0 dX6_layTotal_19 rfl rfl ?_
        refine z_ishl hx dX6_layTotal_20 ?_
        refine z_iconst hx (v := (-1)) dX6_layTotal_21 rfl ?_
        refine z_ixor hx dX6_layTotal_22 ?_
        refine z_iand hx dX6_layTotal_23 ?_
        refine z_eqi (b := nI (2 ^ zunk r.1 d - 1 - 2 ^ i)) (zmsk (zunk r.1 d) (by omega) i (by omega)) ?_
        refine z_bipush hx (v := (-9)) dX6_layTotal_24 rfl ?_
        refine z_callV hx (As := [.int (nI (2 ^ zunk r.1 d - 1 - 2 ^ i)), .int (-9)]) (st := [.long (Int64.ofInt (zS i (fun k => zMin (zGm r d S) (zunk r.1 d) k)))]) (kc_ms hI N hv (zGt_fr hG (zfm_of (ks := fun _ => False) hNf (by omega)) (by omega) (by omega) (fun z => z) (fun z => z)) (i := i) (by omega)) zw_784 zy_X6_minor ⟨rfl, rfl⟩ (by decide) (zOB_X6 E) rfl rfl rfl rfl (Nat.le_of_ble_eq_true rfl) dX6_layTotal_26 ?_
        rintro _ M26 ⟨v26, rfl, q26⟩
        obtain ⟨rfl, q26⟩ := q26
        show zJ E x 29 _ [.long (Int64.ofInt (zMin (zGm r d S) (zunk r.1 d) i)), .long (Int64.ofInt (zS i (fun k => zMin (zGm r d S) (zunk r.1 d) k)))] _
        refine z_ladd hx dX6_layTotal_29 ?_
        refine z_lstore_n hx (lv2 := [(1, .long ((Int64.ofInt (zS i (fun k => zMin (zGm r d S) (zunk r.1 d) k))) + (Int64.ofInt (zMin (zGm r d S) (zunk r.1 d) i)))), (3, .int (nI i)), (0, .ref (E.2.2.2 32))]) dX6_layTotal_30 rfl (by decide) rfl ?_
        refine z_iinc hx (w := nI (i + 1)) (lv2 := [(3, .int (nI (i + 1))), (1, .long ((Int64.ofInt (zS i (fun k => zMin (zGm r d S) (zunk r.1 d) k))) + (Int64.ofInt (zMin (zGm r d S) (zunk r.1 d) i)))), (0, .ref (E.2.2.2 32))]) 1 dX6_layTotal_31 rfl (z_inc _) (by decide) rfl ?_
        refine z_goto (tgt := 4) hx dX6_layTotal_34 (by decide) ?_
        exact z_to (ih4 (i + 1) M26 (by omega) (zfr_tr hNf q26) (by omega)) [0, 1, 2] (by rw [zI64_add]; rfl) rfl
  exact z_to (loop4 _ 0 M (Nat.zero_le _) (zfr_rf _ _) (Nat.lt_succ_self _)) [0, 1, 2] (by rw [show (0 : Int64) = Int64.ofInt 0 by decide +kernel]; rfl) rfl
set_option maxHeartbeats 4000000 in
set_option maxRecDepth 100000 in
theorem k_X6_laySquares {E : zE} (hI : zI E) (M : zM) {r : zRo} (hv : zVr r) {d : Bool} {S : Nat → Bool} (hG : zGt M (zunk r.1 d) (zGm r d S)) (hpos : ¬ zdet (zunk r.1 d) (zGm r d S) = 0) : zK E yX6_laySquares (.code yX6_laySquares cX6_laySquares 6 none) (zrm 2 55) [.ref (E.2.2.2 32)] M (zpv (fun M2 => M2.2 32 22 = Int64.ofInt (zTold (zSq (zGm r d S) (zunk r.1 d)) (zdet (zunk r.1 d) (zGm r d S)).natAbs true) ∧ M2.2 32 23 = Int64.ofInt (zTold (zSq (zGm r d S) (zunk r.1 d)) (zdet (zunk r.1 d) (zGm r d S)).natAbs false) ∧ zGt M2 (zunk r.1 d) (zGm r d S) ∧ zfL M M2)) := by
  refine zK_of hI (by decide) (Nat.le_of_ble_eq_true rfl) (fun x hx ri rz rl rv => ?_)
  show zJ E x 0 [(0, .ref (E.2.2.2 32))] [] M
  have hu := zunk_le hv.1.2 d
  have hDD := zD_in hv d S
  have hwu : r.1 ≤ zunk r.1 d := by unfold zunk; split <;> omega
  have hsq := zS_in hv d S (by omega)
  refine z_aload_n hx 0 dX6_laySquares_0 rfl rfl ?_
  refine z_aload_n hx 0 dX6_laySquares_1 rfl rfl ?_
  refine z_callV hx (As := []) (st := [.ref (E.2.2.2 32)]) (k_X6_columns hI M hu hG.1) zw_777 zy_X6_columns ⟨rfl, rfl⟩ (by decide) (zOB_X6 E) rfl rfl rfl rfl (Nat.le_of_ble_eq_true rfl) dX6_laySquares_2 ?_
  rintro _ M2 ⟨v2, rfl, q2⟩
  obtain ⟨rfl, q2⟩ := q2
  rw [q2]
  show zJ E x 5 _ [.int (nI (2 ^ zunk r.1 d - 1)), .ref (E.2.2.2 32)] _
  refine z_bipush hx (v := (-9)) dX6_laySquares_5 rfl ?_
  refine z_callV hx (As := [.int (nI (2 ^ zunk r.1 d - 1)), .int (-9)]) (st := []) (kc_mf hI M hv hG) zw_784 zy_X6_minor ⟨rfl, rfl⟩ (by decide) (zOB_X6 E) rfl rfl rfl rfl (Nat.le_of_ble_eq_true rfl) dX6_laySquares_7 ?_
  rintro _ M7 ⟨v7, rfl, q7⟩
  obtain ⟨rfl, q7⟩ := q7
  show zJ E x 10 _ [.long (Int64.ofInt (zdet (zunk r.1 d) (zGm r d S)))] _
  refine z_lstore_n hx (lv2 := [(1, .long (Int64.ofInt (zdet (zunk r.1 d) (zGm r d S)))), (0, .ref (E.2.2.2 32))]) dX6_laySquares_10 rfl (by decide) rfl ?_
  refine z_lload_n hx 0 dX6_laySquares_11 rfl rfl ?_
  refine z_aload_n hx 1 dX6_laySquares_12 rfl rfl ?_
  refine zg_X6_18 hx zw_594 dX6_laySquares_13 ?_
  refine z_eql (b := Int64.ofInt (zGm r d S (zunk r.1 d) (zunk r.1 d))) (by rw [(q7 32 (by omega)).2]; exact hG.2.2.2) ?_
  refine z_lmul hx dX6_laySquares_16 ?_
  refine z_lstore_n hx (lv2 := [(3, .long ((Int64.ofInt (zdet (zunk r.1 d) (zGm r d S))) * (Int64.ofInt (zGm r d S (zunk r.1 d) (zunk r.1 d))))), (1, .long (Int64.ofInt (zdet (zunk r.1 d) (zGm r d S)))), (0, .ref (E.2.2.2 32))]) dX6_laySquares_17 rfl (by decide) rfl ?_
  refine z_iconst hx (v := nI 0) dX6_laySquares_18 (by decide +kernel) ?_
  refine z_istore hx (lv2 := [(5, .int (nI 0)), (3, .long ((Int64.ofInt (zdet (zunk r.1 d) (zGm r d S))) * (Int64.ofInt (zGm r d S (zunk r.1 d) (zunk r.1 d))))), (1, .long (Int64.ofInt (zdet (zunk r.1 d) (zGm r d S)))), (0, .ref (E.2.2.2 32))]) dX6_laySquares_19 (by decide) rfl ?_
  have loop21 : ∀ (fuel21 : Nat) (i : Nat) (N : zM) (_ : i ≤ (zunk r.1 d)) (_ : zfr (fun c => c = 43 ∨ c = 44) M N), (zunk r.1 d) - i < fuel21 → zJ E x 21 [(5, .int (nI i)), (3, .long (Int64.ofInt (zdet (zunk r.1 d) (zGm r d S) * zGm r d S (zunk r.1 d) (zunk r.1 d) - zS i (fun i => zVal (zGm r d S) (zunk r.1 d) i * zGm r d S i (zunk r.1 d))))), (1, .long (Int64.ofInt (zdet (zunk r.1 d) (zGm r d S)))), (0, .ref (E.2.2.2 32))] [] N := by
    intro fuel21
    induction fuel21 with
    | zero =>
      intros; omega
    | succ fuel21 ih21 =>
      intro i N hi hNf hfuel21
      refine z_iload hx 0 dX6_laySquares_21 rfl ?_
      refine z_aload_n hx 3 dX6_laySquares_23 rfl rfl ?_
      refine zg_X6_15 hx zw_591 dX6_laySquares_24 ?_
      refine z_eqi (b := nI (zunk r.1 d)) (zGt_fr hG (zfm_of (ks := fun _ => False) hNf (by omega)) (by omega) (by omega) (fun z => z) (fun z => z)).1 ?_
      refine z_icmp_ge_n (tgt := 57) hx (by omega) (by omega) dX6_laySquares_27 (by decide) (fun h27 => ?_) (fun h27 => ?_)
      · skip
        refine z_aload_n hx 3 dX6_laySquares_57 rfl rfl ?_
        refine z_lload_n hx 1 dX6_laySquares_58 rfl rfl ?_
        refine z_lload_n hx 2 dX6_laySquares_59 rfl rfl ?_
        rw [show i = (zunk r.1 d) by omega]
        refine z_eql (b := Int64.ofInt (((zdet (zunk r.1 d) (zGm r d S)).natAbs : Nat) : Int)) (zdna hDD.1) ?_
        refine z_callV hx (As := [.long (Int64.ofInt (zSq (zGm r d S) (zunk r.1 d))), .long (Int64.ofInt (((zdet (zunk r.1 d) (zGm r d S)).natAbs : Nat) : Int))]) (st := []) (k_X6_layFraction hI N (zSq (zGm r d S) (zunk r.1 d)) (zdet (zunk r.1 d) (zGm r d S)).natAbs (zab_rg hsq (by decide)) (by omega) (by omega)) zw_806 zy_X6_layFraction ⟨rfl, rfl⟩ (by decide) (zOB_X6 E) rfl rfl rfl rfl (Nat.le_of_ble_eq_true rfl) dX6_laySquares_60 ?_
        rintro _ M60 ⟨rfl, q60⟩
        show zJ E x 63 _ [] _
        exact rv _ _ _ rfl ⟨rfl, ⟨q60.1, q60.2.1, zGt_fr (zGt_fr hG (zfm_of (ks := fun _ => False) hNf (by omega)) (by omega) (by omega) (fun z => z) (fun z => z)) q60.2.2 (fun z => z) (fun z => z) (by omega) (by omega), zfm_tr (zfm_of (zfr_w hNf (fun c z => by omega)) (by omega)) (zfm_w q60.2.2 (fun c z => False.elim z) (fun k z => by omega))⟩⟩ dX6_laySquares_63
      · skip
        refine z_lload_n hx 1 dX6_laySquares_30 rfl rfl ?_
        refine z_aload_n hx 3 dX6_laySquares_31 rfl rfl ?_
        refine z_aload_n hx 3 dX6_laySquares_32 rfl rfl ?_
        refine z_callV hx (As := []) (st := [.ref (E.2.2.2 32), .long (Int64.ofInt (zdet (zunk r.1 d) (zGm r d S) * zGm r d S (zunk r.1 d) (zunk r.1 d) - zS i (fun i => zVal (zGm r d S) (zunk r.1 d) i * zGm r d S i (zunk r.1 d))))]) (k_X6_columns hI N hu (zGt_fr hG (zfm_of (ks := fun _ => False) hNf (by omega)) (by omega) (by omega) (fun z => z) (fun z => z)).1) zw_777 zy_X6_columns ⟨rfl, rfl⟩ (by decide) (zOB_X6 E) rfl rfl rfl rfl (Nat.le_of_ble_eq_true rfl) dX6_laySquares_33 ?_
        rintro _ M33 ⟨v33, rfl, q33⟩
        obtain ⟨rfl, q33⟩ := q33
        rw [q33]
        show zJ E x 36 _ [.int (nI (2 ^ zunk r.1 d - 1)), .ref (E.2.2.2 32), .long (Int64.ofInt (zdet (zunk r.1 d) (zGm r d S) * zGm r d S (zunk r.1 d) (zunk r.1 d) - zS i (fun i => zVal (zGm r d S) (zunk r.1 d) i * zGm r d S i (zunk r.1 d))))] _
        refine z_iload hx 0 dX6_laySquares_36 rfl ?_
        refine z_callV hx (As := [.int (nI (2 ^ zunk r.1 d - 1)), .int (nI i)]) (st := [.long (Int64.ofInt (zdet (zunk r.1 d) (zGm r d S) * zGm r d S (zunk r.1 d) (zunk r.1 d) - zS i (fun i => zVal (zGm r d S) (zunk r.1 d) i * zGm r d S i (zunk r.1 d))))]) (kc_mi hI N hv (zGt_fr hG (zfm_of (ks := fun _ => False) hNf (by omega)) (by omega) (by omega) (fun z => z) (fun z => z)) (i := i) (by omega)) zw_784 zy_X6_minor ⟨rfl, rfl⟩ (by decide) (zOB_X6 E) rfl rfl rfl rfl (Nat.le_of_ble_eq_true rfl) dX6_laySquares_38 ?_
        rintro _ M38 ⟨v38, rfl, q38⟩
        obtain ⟨rfl, q38⟩ := q38
        show zJ E x 41 _ [.long (Int64.ofInt (zVal (zGm r d S) (zunk r.1 d) i)), .long (Int64.ofInt (zdet (zunk r.1 d) (zGm r d S) * zGm r d S (zunk r.1 d) (zunk r.1 d) - zS i (fun i => zVal (zGm r d S) (zunk r.1 d) i * zGm r d S i (zunk r.1 d))))] _
        refine z_aload_n hx 3 dX6_laySquares_41 rfl rfl ?_
        refine zg_X6_17 hx zw_593 dX6_laySquares_42 ?_
        refine z_iload hx 0 dX6_laySquares_45 rfl ?_
        refine z_lald_n hx (zJA_42 E) (by omega) dX6_laySquares_47 ?_
        refine z_eql (b := Int64.ofInt (zGm r d S i (zunk r.1 d))) (by rw [(q38 42 (by omega)).2, (hNf 42 (by omega)).2]; exact hG.2.2.1 i (by omega)) ?_
        refine z_lmul hx dX6_laySquares_48 ?_
        refine z_lsub hx dX6_laySquares_49 ?_
        refine z_lstore_n hx (lv2 := [(3, .long ((Int64.ofInt (zdet (zunk r.1 d) (zGm r d S) * zGm r d S (zunk r.1 d) (zunk r.1 d) - zS i (fun i => zVal (zGm r d S) (zunk r.1 d) i * zGm r d S i (zunk r.1 d)))) - ((Int64.ofInt (zVal (zGm r d S) (zunk r.1 d) i)) * (Int64.ofInt (zGm r d S i (zunk r.1 d)))))), (5, .int (nI i)), (1, .long (Int64.ofInt (zdet (zunk r.1 d) (zGm r d S)))), (0, .ref (E.2.2.2 32))]) dX6_laySquares_50 rfl (by decide) rfl ?_
        refine z_iinc hx (w := nI (i + 1)) (lv2 := [(5, .int (nI (i + 1))), (3, .long ((Int64.ofInt (zdet (zunk r.1 d) (zGm r d S) * zGm r d S (zunk r.1 d) (zunk r.1 d) - zS i (fun i => zVal (zGm r d S) (zunk r.1 d) i * zGm r d S i (zunk r.1 d)))) - ((Int64.ofInt (zVal (zGm r d S) (zunk r.1 d) i)) * (Int64.ofInt (zGm r d S i (zunk r.1 d)))))), (1, .long (Int64.ofInt (zdet (zunk r.1 d) (zGm r d S)))), (0, .ref (E.2.2.2 32))]) 1 dX6_laySquares_51 rfl (z_inc _) (by decide) rfl ?_
        refine z_goto (tgt := 21) hx dX6_laySquares_54 (by decide) ?_
        exact z_to (ih21 (i + 1) M38 (by omega) (zfr_tr hNf q38) (by omega)) [0, 1, 2, 3] (by rw [zI64_mul, zI64_sub, Int.sub_sub]; rfl) rfl
  exact z_to (loop21 _ 0 M7 (Nat.zero_le _) q7 (Nat.lt_succ_self _)) [0, 1, 2, 3] (by rw [zI64_mul]; simp only [zS, Int.sub_zero]; rfl) rfl
