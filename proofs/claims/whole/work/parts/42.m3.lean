set_option maxHeartbeats 4000000 in
set_option maxRecDepth 100000 in
theorem k_X6_undo {E : zE} (hI : zI E) (M : zM) {σ : zSt} (hσ : zMs M σ) (hk : zSk σ)  : zK E yX6_undo (.code yX6_undo cX6_undo 2 (some .int)) (zrm 0 0) [.ref (E.2.2.2 32)] M (zpi (fun v M2 => v = (zop_undo σ ).1 ∧ zMs M2 (zop_undo σ ).2 ∧ zfN M M2)) := by
  refine zK_of hI (by decide) (Nat.le_of_ble_eq_true rfl) (fun x hx ri rz rl rv => ?_)
  show zJ E x 0 [(0, .ref (E.2.2.2 32))] [] M
  obtain ⟨tx, len, ⟨w, n, mm, cd, rd⟩, as, s, sl, sd⟩ := σ
  have hσ2 := hσ
  obtain ⟨⟨hL, hT⟩, hW, hP, ⟨hs, hA⟩, hS, hsd⟩ := hσ
  have hv := hk.1
  have hw4 : 1 ≤ w ∧ w ≤ 4 := hv.1
  have hmm : mm ≤ 99 := hv.2.1
  have hn8 : n ≤ 8 := hv.2.2.1
  have hlen : len ≤ 90 := hk.2.1.1
  have hs14 : s ≤ 14 := hk.2.2.1
  have hL : M.1 32 2 = nI len := hL
  have hW : M.1 32 4 = nI w := hW
  have hs : M.1 32 11 = nI s := hs
  have hsd : M.2 32 14 = sd := hsd
  have hP0 : M.1 35 0 = nI mm := hP.1
  have hP1 : M.1 35 1 = nI n := hP.2.1
  have hP2 : ∀ t, t < n → M.1 35 (2 + t) = nI (cd t) ∧ M.1 35 (10 + t) = Int32.ofInt (rd t) := hP.2.2
  have hT : ∀ k, k < 90 → M.1 33 k = nI (tx k) := hT
  refine z_aload_n hx 0 dX6_undo_0 rfl rfl ?_
  refine z_iconst hx (v := nI 0) dX6_undo_1 (by decide +kernel) ?_
  refine zp_X6_0 hx zw_576 dX6_undo_2 ?_
  refine z_aload_n hx 0 dX6_undo_5 rfl rfl ?_
  refine zg_X6_11 hx zw_587 dX6_undo_6 ?_
  refine z_eqi (b := nI s) (zskK (by omega) hs) ?_
  refine z_if_ne_n (tgt := 15) hx (by omega) dX6_undo_9 (by decide) (fun h9 => ?_) (fun h9 => ?_)
  · skip
    refine z_aload_n hx 0 dX6_undo_15 rfl rfl ?_
    refine z_dup hx dX6_undo_16 rfl ?_
    refine zg_X6_11 hx zw_587 dX6_undo_17 ?_
    refine z_eqi (b := nI s) (zskK (by omega) hs) ?_
    refine z_iconst hx (v := nI 1) dX6_undo_20 (by decide +kernel) ?_
    refine z_isub_n hx (by omega) dX6_undo_21 ?_
    refine zp_X6_11 hx zw_587 dX6_undo_22 ?_
    refine z_iconst hx (v := nI 0) dX6_undo_25 (by decide +kernel) ?_
    refine z_istore_n hx (lv2 := [(1, .int (nI 0)), (0, .ref (E.2.2.2 32))]) dX6_undo_26 rfl (by decide) rfl ?_
    have loop27 : ∀ (fuel27 : Nat) (k : Nat) (N : zM) (_ : k ≤ 18) (_ : zfr (fun c => c = 35) (zputI (zputI M 32 0 (nI 0)) 32 11 (nI (s - 1))) N) (_ : ∀ j, j < k → N.1 35 j = M.1 38 (18 * (s - 1) + j)), 18 - k < fuel27 → zJ E x 27 [(1, .int (nI k)), (0, .ref (E.2.2.2 32))] [] N := by
      intro fuel27
      induction fuel27 with
      | zero =>
        intros; omega
      | succ fuel27 ih27 =>
        intro k N hk2 hBf hB1 hfuel27
        refine z_iload_n hx 0 dX6_undo_27 rfl rfl ?_
        refine z_bipush hx (v := nI 18) dX6_undo_28 (by decide +kernel) ?_
        refine z_icmp_ge_n (tgt := 59) hx (by omega) (by omega) dX6_undo_30 (by decide) (fun h30 => ?_) (fun h30 => ?_)
        · skip
          refine z_aload_n hx 1 dX6_undo_59 rfl rfl ?_
          refine zg_X6_11 hx zw_587 dX6_undo_60 ?_
          refine z_eqi (b := nI (s - 1)) (by rw [(hBf 32 (by omega)).1]; exact zhtI) ?_
          exact ri _ _ _ _ rfl ⟨_, rfl, (by
              rw [zop_undo, if_neg (by show ¬ s = 0; omega)]
              have e32 := hBf 32 (by omega)
              refine ⟨rfl, ⟨⟨by rw [e32.1]; exact zskK (by omega) (zskK (by omega) hL), by rw [(hBf 33 (by omega)).1]; exact hT⟩, ?_, ?_, ⟨by rw [e32.1]; exact zhtI, fun i hi => ?_⟩, ?_, by rw [e32.2]; exact hsd⟩, zfr_tr zfN_t (zfr_tr (zfr_putI (by omega)) (zfr_w hBf (fun c z => by omega)))⟩
              · rw [e32.1]
                show (zputI (zputI M 32 0 (nI 0)) 32 11 (nI (s - 1))).1 32 4 = nI (as (s - 1)).1
                rw [show (as (s - 1)).1 = w from (hk.2.2.2.1 (s - 1) (by show s - 1 < s; omega)).2]
                exact zskK (by omega) (zskK (by omega) hW)
              · exact zPf_cg (hA (s - 1) (by show s - 1 < s; omega)) ((hk.2.2.2.1 (s - 1) (by show s - 1 < s; omega)).1).2.2.1 (fun k hk => hB1 k (by omega))
              · rw [(hBf 38 (by omega)).1]
                exact hA i (by have hi2 : i < s - 1 := hi; show i < s; omega)
              · rw [(hBf 39 (by omega)).1, (hBf 40 (by omega)).1]
                exact hS)⟩ dX6_undo_63
        · skip
          refine z_aload_n hx 1 dX6_undo_33 rfl rfl ?_
          refine zg_X6_7 hx zw_583 dX6_undo_34 ?_
          refine z_iload_n hx 0 dX6_undo_37 rfl rfl ?_
          refine z_aload_n hx 1 dX6_undo_38 rfl rfl ?_
          refine zg_X6_10 hx zw_586 dX6_undo_39 ?_
          refine z_bipush hx (v := nI 18) dX6_undo_42 (by decide +kernel) ?_
          refine z_aload_n hx 1 dX6_undo_44 rfl rfl ?_
          refine zg_X6_11 hx zw_587 dX6_undo_45 ?_
          refine z_eqi (b := nI (s - 1)) (by rw [(hBf 32 (by omega)).1]; exact zhtI) ?_
          refine z_imul_n hx dX6_undo_48 ?_
          refine z_iload_n hx 0 dX6_undo_49 rfl rfl ?_
          refine z_iadd_n hx dX6_undo_50 ?_
          refine z_iald_n hx (zIA_38 E) (by omega) dX6_undo_51 ?_
          refine z_eqi (b := M.1 38 ((18 * (s - 1)) + k)) (by rw [(hBf 38 (by omega)).1]; exact zskI (by omega) (zskI (by omega) rfl)) ?_
          refine z_iast_n hx (zIA_35 E) (by omega) dX6_undo_52 ?_
          refine z_iinc hx (w := nI (k + 1)) (lv2 := [(1, .int (nI (k + 1))), (0, .ref (E.2.2.2 32))]) 0 dX6_undo_53 rfl (z_inc _) (by decide) rfl ?_
          refine z_goto (tgt := 27) hx dX6_undo_56 (by decide) ?_
          exact z_to (ih27 (k + 1) (zputI N 35 k (M.1 38 ((18 * (s - 1)) + k))) (by omega) (zfr_tr hBf (zfr_putI rfl)) (fun j hj => by
              rw [zg_putI]
              by_cases e : j = k
              · subst e
                rw [if_pos ⟨rfl, rfl⟩]
              · rw [if_neg (by omega)]
                exact hB1 j (by omega)) (by omega)) [0, 1] rfl rfl
    exact z_to (loop27 _ 0 (zputI (zputI M 32 0 (nI 0)) 32 11 (nI (s - 1))) (by omega) (zfr_rf _ _) (fun j hj => by omega) (Nat.lt_succ_self _)) [0, 1] rfl rfl
  · skip
    refine z_bipush hx (v := (-3)) dX6_undo_12 rfl ?_
    exact ri _ _ _ _ rfl ⟨_, rfl, (by rw [zop_undo, if_pos h9]; exact ⟨rfl, zMs_t hσ2, zfN_t⟩)⟩ dX6_undo_14
theorem zin_2 {x : Int32} : (0 ≤ x.toInt64 ∧ x.toInt64 ≤ 1) ↔ ¬ (x < 0 ∨ ¬ x ≤ nI 1) := zin_x (m := 1) (by decide) (by decide +kernel)
theorem zlt2 {x : Int32} : (x < 0 ∨ ¬ x < nI 2) ↔ (x < 0 ∨ ¬ x ≤ nI 1) := by
  rw [Int32.lt_iff_toInt_lt, Int32.lt_iff_toInt_lt, Int32.le_iff_toInt_le, nI_toInt (by decide), nI_toInt (by decide)]
  omega
set_option maxHeartbeats 4000000 in
set_option maxRecDepth 100000 in
theorem k_X6_keep {E : zE} (hI : zI E) (M : zM) {σ : zSt} (hσ : zMs M σ) (hk : zSk σ) (t : Int32) : zK E yX6_keep (.code yX6_keep cX6_keep 3 (some .int)) (zrm 1 25) [.ref (E.2.2.2 32), .int t] M (zpi (fun v M2 => v = (zop_keep σ t).1 ∧ zMs M2 (zop_keep σ t).2 ∧ zfN M M2)) := by
  refine zK_of hI (by decide) (Nat.le_of_ble_eq_true rfl) (fun x hx ri rz rl rv => ?_)
  show zJ E x 0 [(0, .ref (E.2.2.2 32)), (1, .int t)] [] M
  obtain ⟨tx, len, ⟨w, n, mm, cd, rd⟩, as, s, sl, sd⟩ := σ
  have hσ2 := hσ
  obtain ⟨⟨hL, hT⟩, hW, hP, ⟨hs, hA⟩, hS, hsd⟩ := hσ
  have hv := hk.1
  have hw4 : 1 ≤ w ∧ w ≤ 4 := hv.1
  have hmm : mm ≤ 99 := hv.2.1
  have hn8 : n ≤ 8 := hv.2.2.1
  have hlen : len ≤ 90 := hk.2.1.1
  have hs14 : s ≤ 14 := hk.2.2.1
  have hL : M.1 32 2 = nI len := hL
  have hW : M.1 32 4 = nI w := hW
  have hs : M.1 32 11 = nI s := hs
  have hsd : M.2 32 14 = sd := hsd
  have hP0 : M.1 35 0 = nI mm := hP.1
  have hP1 : M.1 35 1 = nI n := hP.2.1
  have hP2 : ∀ t, t < n → M.1 35 (2 + t) = nI (cd t) ∧ M.1 35 (10 + t) = Int32.ofInt (rd t) := hP.2.2
  have hT : ∀ k, k < 90 → M.1 33 k = nI (tx k) := hT
  refine z_aload_n hx 0 dX6_keep_0 rfl rfl ?_
  refine z_iconst hx (v := nI 0) dX6_keep_1 (by decide +kernel) ?_
  refine zp_X6_0 hx zw_576 dX6_keep_2 ?_
  refine z_iload_n hx 1 dX6_keep_5 rfl rfl ?_
  refine z_i2l hx dX6_keep_6 ?_
  refine z_lconst hx (v := 0) dX6_keep_7 rfl ?_
  refine z_lconst hx (v := 1) dX6_keep_8 rfl ?_
  refine z_callS hx (As := [.long t.toInt64, .long 0, .long 1]) (st := []) (k_X6_in hI (zputI M 32 0 (nI 0)) t.toInt64 0 1) zw_654 zy_X6_in ⟨rfl, rfl⟩ (by decide) rfl rfl (Nat.le_of_ble_eq_true rfl) dX6_keep_9 ?_
  rintro _ M9 ⟨v9, rfl, q9⟩
  obtain ⟨q9, hmm⟩ := q9
  rw [hmm]
  rw [zin_2] at q9
  rcases q9 with ⟨q9, rfl⟩ | ⟨q9, rfl⟩
  · skip
    show zJ E x 12 _ [.int (nI 1)] _
    obtain ⟨j, hj, rfl⟩ := zle_nI (by decide) (znot q9).1 (Classical.not_not.mp (znot q9).2)
    have hj2 : j < 2 := by omega
    refine z_if_ne_n (tgt := 17) hx (by decide) dX6_keep_12 (by decide) (fun _ => ?_) (fun h => absurd h (by decide))
    refine z_aload_n hx 0 dX6_keep_17 rfl rfl ?_
    refine zg_X6_13 hx zw_589 dX6_keep_18 ?_
    refine z_iload_n hx 1 dX6_keep_21 rfl rfl ?_
    refine z_iconst hx (v := nI 1) dX6_keep_22 (by decide +kernel) ?_
    refine z_zast_n hx (zZA_40 E) (by omega) (Or.inr rfl) dX6_keep_23 ?_
    refine z_iconst hx (v := nI 0) dX6_keep_24 (by decide +kernel) ?_
    refine z_istore_n hx (lv2 := [(2, .int (nI 0)), (0, .ref (E.2.2.2 32)), (1, .int (nI j))]) dX6_keep_25 rfl (by decide) rfl ?_
    have loop26 : ∀ (fuel26 : Nat) (k : Nat) (N : zM) (_ : k ≤ 18) (_ : zfr (fun c => c = 39) (zputI (zputI M 32 0 (nI 0)) 40 j (nI 1)) N) (_ : ∀ i, i < k → N.1 39 (18 * j + i) = M.1 35 i) (_ : ∀ i, i < 18 * j ∨ 18 * j + 18 ≤ i → N.1 39 i = M.1 39 i), 18 - k < fuel26 → zJ E x 26 [(2, .int (nI k)), (0, .ref (E.2.2.2 32)), (1, .int (nI j))] [] N := by
      intro fuel26
      induction fuel26 with
      | zero =>
        intros; omega
      | succ fuel26 ih26 =>
        intro k N hk2 hBf hB1 hB2 hfuel26
        refine z_iload_n hx 0 dX6_keep_26 rfl rfl ?_
        refine z_bipush hx (v := nI 18) dX6_keep_27 (by decide +kernel) ?_
        refine z_icmp_ge_n (tgt := 55) hx (by omega) (by omega) dX6_keep_29 (by decide) (fun h29 => ?_) (fun h29 => ?_)
        · skip
          refine z_aload_n hx 1 dX6_keep_55 rfl rfl ?_
          refine zg_X6_7 hx zw_583 dX6_keep_56 ?_
          refine z_iconst hx (v := nI 1) dX6_keep_59 (by decide +kernel) ?_
          refine z_iald_n hx (zIA_35 E) (by omega) dX6_keep_60 ?_
          refine z_eqi (b := nI n) (by rw [(hBf 35 (by omega)).1]; exact zskI (by omega) (zskI (by omega) hP1)) ?_
          exact ri _ _ _ _ rfl ⟨_, rfl, (by
              rw [zop_keep, if_neg (fun z => q9 (zlt2.mp z)), nI_clamp (by omega)]
              have e32 := hBf 32 (by omega)
              refine ⟨rfl, ⟨⟨by rw [e32.1]; exact zskI (by omega) (zskK (by omega) hL), by rw [(hBf 33 (by omega)).1]; exact hT⟩, by rw [e32.1]; exact zskI (by omega) (zskK (by omega) hW), by rw [(hBf 35 (by omega)).1]; exact hP, ⟨by rw [e32.1]; exact zskI (by omega) (zskK (by omega) hs), by rw [(hBf 38 (by omega)).1]; exact hA⟩, fun i hi => ?_, by rw [e32.2]; exact hsd⟩, zfr_tr zfN_t (zfr_tr (zfr_putI (by omega)) (zfr_w hBf (fun c z => by omega)))⟩
              show (va_up sl j (some (w, n, mm, cd, rd)) i = none ∧ _) ∨ ∃ q, va_up sl j (some (w, n, mm, cd, rd)) i = some q ∧ _
              rw [(hBf 40 (by omega)).1]
              unfold va_up
              by_cases e : i = j
              · subst e
                rw [if_pos rfl]
                exact Or.inr ⟨_, rfl, zhtI, zPf_cg hP hn8 (fun k hk => hB1 k (by omega))⟩
              · rw [if_neg e]
                rcases hS i hi with ⟨z1, z2⟩ | ⟨q, z1, z2, z3⟩
                · exact Or.inl ⟨z1, zskK e (zskI (by omega) z2)⟩
                · exact Or.inr ⟨q, z1, zskK e (zskI (by omega) z2), zPf_cg z3 ((hk.2.2.2.2 i q hi z1).1).2.2.1 (fun k hk => hB2 _ (by omega))⟩)⟩ dX6_keep_61
        · skip
          refine z_aload_n hx 1 dX6_keep_32 rfl rfl ?_
          refine zg_X6_12 hx zw_588 dX6_keep_33 ?_
          refine z_bipush hx (v := nI 18) dX6_keep_36 (by decide +kernel) ?_
          refine z_iload_n hx 2 dX6_keep_38 rfl rfl ?_
          refine z_imul_n hx dX6_keep_39 ?_
          refine z_iload_n hx 0 dX6_keep_40 rfl rfl ?_
          refine z_iadd_n hx dX6_keep_41 ?_
          refine z_aload_n hx 1 dX6_keep_42 rfl rfl ?_
          refine zg_X6_7 hx zw_583 dX6_keep_43 ?_
          refine z_iload_n hx 0 dX6_keep_46 rfl rfl ?_
          refine z_iald_n hx (zIA_35 E) (by omega) dX6_keep_47 ?_
          refine z_eqi (b := M.1 35 k) (by rw [(hBf 35 (by omega)).1]; exact zskI (by omega) (zskI (by omega) rfl)) ?_
          refine z_iast_n hx (zIA_39 E) (by omega) dX6_keep_48 ?_
          refine z_iinc hx (w := nI (k + 1)) (lv2 := [(2, .int (nI (k + 1))), (0, .ref (E.2.2.2 32)), (1, .int (nI j))]) 0 dX6_keep_49 rfl (z_inc _) (by decide) rfl ?_
          refine z_goto (tgt := 26) hx dX6_keep_52 (by decide) ?_
          exact z_to (ih26 (k + 1) (zputI N 39 ((18 * j) + k) (M.1 35 k)) (by omega) (zfr_tr hBf (zfr_putI rfl)) (fun i hi => by
              rw [zg_putI]
              by_cases e : i = k
              · subst e
                rw [if_pos ⟨rfl, rfl⟩]
              · rw [if_neg (by omega)]
                exact hB1 i (by omega)) (fun i hi => by rw [zg_putI, if_neg (by omega)]; exact hB2 i hi) (by omega)) [0, 1, 2] rfl rfl
    exact z_to (loop26 _ 0 (zputI (zputI M 32 0 (nI 0)) 40 j (nI 1)) (by omega) (zfr_rf _ _) (fun j hj => by omega) (fun _ _ => rfl) (Nat.lt_succ_self _)) [0, 1, 2] rfl rfl
  · skip
    show zJ E x 12 _ [.int (nI 0)] _
    refine z_if_ne_n (tgt := 17) hx (by decide) dX6_keep_12 (by decide) (fun h => absurd h (by decide)) (fun _ => ?_)
    refine z_iconst hx (v := (-1)) dX6_keep_15 rfl ?_
    exact ri _ _ _ _ rfl ⟨_, rfl, (by rw [zop_keep, if_pos (zlt2.mpr (Classical.byContradiction q9))]; exact ⟨rfl, zMs_t hσ2, zfN_t⟩)⟩ dX6_keep_16
theorem zskI2 {M : zM} {c c' k : Nat} {v : Int32} {P : (Nat → Int32) → Prop} (h : ¬ c' = c) (e : P (M.1 c')) : P ((zputI M c k v).1 c') := by
  have e2 : (zputI M c k v).1 c' = M.1 c' := by funext j; exact zskI h rfl
  rw [e2]
  exact e
set_option maxHeartbeats 4000000 in
set_option maxRecDepth 100000 in
theorem k_X6_again {E : zE} (hI : zI E) (M : zM) {σ : zSt} (hσ : zMs M σ) (hk : zSk σ) (t : Int32) : zK E yX6_again (.code yX6_again cX6_again 3 (some .int)) (zrm 1 25) [.ref (E.2.2.2 32), .int t] M (zpi (fun v M2 => v = (zop_again σ t).1 ∧ zMs M2 (zop_again σ t).2 ∧ zfN M M2)) := by
  refine zK_of hI (by decide) (Nat.le_of_ble_eq_true rfl) (fun x hx ri rz rl rv => ?_)
  show zJ E x 0 [(0, .ref (E.2.2.2 32)), (1, .int t)] [] M
  obtain ⟨tx, len, ⟨w, n, mm, cd, rd⟩, as, s, sl, sd⟩ := σ
  have hσ2 := hσ
  obtain ⟨⟨hL, hT⟩, hW, hP, ⟨hs, hA⟩, hS, hsd⟩ := hσ
  have hv := hk.1
  have hw4 : 1 ≤ w ∧ w ≤ 4 := hv.1
  have hmm : mm ≤ 99 := hv.2.1
  have hn8 : n ≤ 8 := hv.2.2.1
  have hlen : len ≤ 90 := hk.2.1.1
  have hs14 : s ≤ 14 := hk.2.2.1
  have hL : M.1 32 2 = nI len := hL
  have hW : M.1 32 4 = nI w := hW
  have hs : M.1 32 11 = nI s := hs
  have hsd : M.2 32 14 = sd := hsd
  have hP0 : M.1 35 0 = nI mm := hP.1
  have hP1 : M.1 35 1 = nI n := hP.2.1
  have hP2 : ∀ t, t < n → M.1 35 (2 + t) = nI (cd t) ∧ M.1 35 (10 + t) = Int32.ofInt (rd t) := hP.2.2
  have hT : ∀ k, k < 90 → M.1 33 k = nI (tx k) := hT
  refine z_aload_n hx 0 dX6_again_0 rfl rfl ?_
  refine z_iconst hx (v := nI 0) dX6_again_1 (by decide +kernel) ?_
  refine zp_X6_0 hx zw_576 dX6_again_2 ?_
  refine z_iload_n hx 1 dX6_again_5 rfl rfl ?_
  refine z_i2l hx dX6_again_6 ?_
  refine z_lconst hx (v := 0) dX6_again_7 rfl ?_
  refine z_lconst hx (v := 1) dX6_again_8 rfl ?_
  refine z_callS hx (As := [.long t.toInt64, .long 0, .long 1]) (st := []) (k_X6_in hI (zputI M 32 0 (nI 0)) t.toInt64 0 1) zw_654 zy_X6_in ⟨rfl, rfl⟩ (by decide) rfl rfl (Nat.le_of_ble_eq_true rfl) dX6_again_9 ?_
  rintro _ M9 ⟨v9, rfl, q9⟩
  obtain ⟨q9, hmm⟩ := q9
  rw [hmm]
  rw [zin_2] at q9
  rcases q9 with ⟨q9, rfl⟩ | ⟨q9, rfl⟩
  · skip
    show zJ E x 12 _ [.int (nI 1)] _
    obtain ⟨j, hj, rfl⟩ := zle_nI (by decide) (znot q9).1 (Classical.not_not.mp (znot q9).2)
    have hj2 : j < 2 := by omega
    refine z_if_ne_n (tgt := 17) hx (by decide) dX6_again_12 (by decide) (fun _ => ?_) (fun h => absurd h (by decide))
    refine z_aload_n hx 0 dX6_again_17 rfl rfl ?_
    refine zg_X6_13 hx zw_589 dX6_again_18 ?_
    refine z_iload_n hx 1 dX6_again_21 rfl rfl ?_
    refine z_zald_n hx (zZA_40 E) (by omega) dX6_again_22 ?_
    refine z_eqi (b := M.1 40 j) (zskI (by omega) rfl) ?_
    rcases hS j hj2 with ⟨hs1, hs2⟩ | ⟨⟨w1, n1, mm1, cd1, rd1⟩, hs1, hs2, hs3⟩
    · skip
      refine z_eqi (b := nI 0) hs2 ?_
      refine z_if_ne_n (tgt := 29) hx (by decide) dX6_again_23 (by decide) (fun h => absurd h (by decide)) (fun _ => ?_)
      refine z_bipush hx (v := (-3)) dX6_again_26 rfl ?_
      exact ri _ _ _ _ rfl ⟨_, rfl, (by rw [zop_again, if_neg (fun z => q9 (zlt2.mp z)), nI_clamp (by omega), hs1]; exact ⟨rfl, zMs_t hσ2, zfN_t⟩)⟩ dX6_again_28
    · skip
      refine z_eqi (b := nI 1) hs2 ?_
      have hR1 : M.1 39 (18 * j + 1) = nI n1 := hs3.2.1
      have hv1 := hk.2.2.2.2 j _ hj2 hs1
      have hw1 : w1 = w := hv1.2
      refine z_if_ne_n (tgt := 29) hx (by decide) dX6_again_23 (by decide) (fun _ => ?_) (fun h => absurd h (by decide))
      refine z_iconst hx (v := nI 0) dX6_again_29 (by decide +kernel) ?_
      refine z_istore_n hx (lv2 := [(2, .int (nI 0)), (0, .ref (E.2.2.2 32)), (1, .int (nI j))]) dX6_again_30 rfl (by decide) rfl ?_
      have loop31 : ∀ (fuel31 : Nat) (k : Nat) (N : zM) (_ : k ≤ 18) (_ : zfr (fun c => c = 35) (zputI M 32 0 (nI 0)) N) (_ : ∀ i, i < k → N.1 35 i = M.1 39 (18 * j + i)), 18 - k < fuel31 → zJ E x 31 [(2, .int (nI k)), (0, .ref (E.2.2.2 32)), (1, .int (nI j))] [] N := by
        intro fuel31
        induction fuel31 with
        | zero =>
          intros; omega
        | succ fuel31 ih31 =>
          intro k N hk2 hBf hB1 hfuel31
          refine z_iload_n hx 0 dX6_again_31 rfl rfl ?_
          refine z_bipush hx (v := nI 18) dX6_again_32 (by decide +kernel) ?_
          refine z_icmp_ge_n (tgt := 60) hx (by omega) (by omega) dX6_again_34 (by decide) (fun h34 => ?_) (fun h34 => ?_)
          · skip
            refine z_aload_n hx 1 dX6_again_60 rfl rfl ?_
            refine z_iconst hx (v := nI 0) dX6_again_61 (by decide +kernel) ?_
            refine zp_X6_11 hx zw_587 dX6_again_62 ?_
            refine z_aload_n hx 1 dX6_again_65 rfl rfl ?_
            refine zg_X6_7 hx zw_583 dX6_again_66 ?_
            refine z_iconst hx (v := nI 1) dX6_again_69 (by decide +kernel) ?_
            refine z_iald_n hx (zIA_35 E) (by omega) dX6_again_70 ?_
            refine z_eqi (b := nI n1) (zskI (by omega) ((hB1 1 (by omega)).trans hR1)) ?_
            exact ri _ _ _ _ rfl ⟨_, rfl, (by
                rw [zop_again, if_neg (fun z => q9 (zlt2.mp z)), nI_clamp (by omega), hs1]
                have e32 := hBf 32 (by omega)
                refine ⟨rfl, ⟨⟨zskK (by omega) (by rw [e32.1]; exact zskK (by omega) hL), (fun k hk => zskI (by omega) (by rw [(hBf 33 (by omega)).1]; exact zskI (by omega) (hT k hk)))⟩, zskK (by omega) (by rw [e32.1]; show (zputI M 32 0 (nI 0)).1 32 4 = nI w1; rw [hw1]; exact zskK (by omega) hW), ?_, ⟨zhtI, fun i hi => absurd hi (Nat.not_lt_zero _)⟩, ?_, by show N.2 32 14 = sd; rw [e32.2]; exact hsd⟩, zfr_tr zfN_t (zfr_tr (zfr_w hBf (fun c z => by omega)) (zfr_putI (by omega)))⟩
                · exact zPf_cg hs3 hv1.1.2.2.1 (fun k hk => zskI (by omega) (hB1 k (by omega)))
                · have e39 : (zputI N 32 11 (nI 0)).1 39 = M.1 39 := by funext k; exact zskI (by omega) (by rw [(hBf 39 (by omega)).1]; exact zskI (by omega) rfl)
                  have e40 : (zputI N 32 11 (nI 0)).1 40 = M.1 40 := by funext k; exact zskI (by omega) (by rw [(hBf 40 (by omega)).1]; exact zskI (by omega) rfl)
                  rw [e39, e40]
                  exact hS)⟩ dX6_again_71
          · skip
            refine z_aload_n hx 1 dX6_again_37 rfl rfl ?_
            refine zg_X6_7 hx zw_583 dX6_again_38 ?_
            refine z_iload_n hx 0 dX6_again_41 rfl rfl ?_
            refine z_aload_n hx 1 dX6_again_42 rfl rfl ?_
            refine zg_X6_12 hx zw_588 dX6_again_43 ?_
            refine z_bipush hx (v := nI 18) dX6_again_46 (by decide +kernel) ?_
            refine z_iload_n hx 2 dX6_again_48 rfl rfl ?_
            refine z_imul_n hx dX6_again_49 ?_
            refine z_iload_n hx 0 dX6_again_50 rfl rfl ?_
            refine z_iadd_n hx dX6_again_51 ?_
            refine z_iald_n hx (zIA_39 E) (by omega) dX6_again_52 ?_
            refine z_eqi (b := M.1 39 ((18 * j) + k)) (by rw [(hBf 39 (by omega)).1]; exact zskI (by omega) rfl) ?_
            refine z_iast_n hx (zIA_35 E) (by omega) dX6_again_53 ?_
            refine z_iinc hx (w := nI (k + 1)) (lv2 := [(2, .int (nI (k + 1))), (0, .ref (E.2.2.2 32)), (1, .int (nI j))]) 0 dX6_again_54 rfl (z_inc _) (by decide) rfl ?_
            refine z_goto (tgt := 31) hx dX6_again_57 (by decide) ?_
            exact z_to (ih31 (k + 1) (zputI N 35 k (M.1 39 ((18 * j) + k))) (by omega) (zfr_tr hBf (zfr_putI rfl)) (fun i hi => by
                rw [zg_putI]
                by_cases e : i = k
                · subst e
                  rw [if_pos ⟨rfl, rfl⟩]
                · rw [if_neg (by omega)]
                  exact hB1 i (by omega)) (by omega)) [0, 1, 2] rfl rfl
      exact z_to (loop31 _ 0 (zputI M 32 0 (nI 0)) (by omega) (zfr_rf _ _) (fun j hj => by omega) (Nat.lt_succ_self _)) [0, 1, 2] rfl rfl
  · skip
    show zJ E x 12 _ [.int (nI 0)] _
    refine z_if_ne_n (tgt := 17) hx (by decide) dX6_again_12 (by decide) (fun h => absurd h (by decide)) (fun _ => ?_)
    refine z_iconst hx (v := (-1)) dX6_again_15 rfl ?_
    exact ri _ _ _ _ rfl ⟨_, rfl, (by rw [zop_again, if_pos (zlt2.mpr (Classical.byContradiction q9))]; exact ⟨rfl, zMs_t hσ2, zfN_t⟩)⟩ dX6_again_16
