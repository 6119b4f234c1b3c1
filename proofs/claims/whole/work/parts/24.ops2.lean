def zop_undo (σ : zSt) : Int32 × zSt := if σ.2.2.2.2.1 = 0 then (-3, σ) else (nI (σ.2.2.2.2.1 - 1), (σ.1, σ.2.1, σ.2.2.2.1 (σ.2.2.2.2.1 - 1), σ.2.2.2.1, σ.2.2.2.2.1 - 1, σ.2.2.2.2.2.1, σ.2.2.2.2.2.2))
set_option maxHeartbeats 4000000 in
set_option maxRecDepth 100000 in
theorem k_X5_undo {E : zE} (hI : zI E) (M : zM) {σ : zSt} (hσ : zCs M σ)  : zK E yX5_undo (.code yX5_undo cX5_undo 1 (some .int)) (zrm 3 68) [.ref (E.2.2.2 0)] M (zpi (fun v M2 => v = (zop_undo σ ).1 ∧ zCs M2 (zop_undo σ ).2 ∧ zfC M M2)) := by
  refine zK_of hI (by decide) (Nat.le_of_ble_eq_true rfl) (fun x hx ri rz rl rv => ?_)
  show zJ E x 0 [(0, .ref (E.2.2.2 0))] [] M
  obtain ⟨tx, len, ⟨w, n, mm, cd, rd⟩, as, s, sl, sd⟩ := σ
  have hσ2 := hσ
  obtain ⟨hT, hH, hA, hS, hD, hO⟩ := hσ
  have hR : zRm M 46 w n mm cd rd := hH
  have hTx : zTx M tx len := hT
  have hn8 := hR.2.2.2.2.2.1
  have hw4 := hR.2.1
  have hlen := hTx.2.1
  have hsd : M.2 0 8 = sd := hD
  obtain ⟨o, ho14, ho, hs, hs14, has⟩ := id hA
  have hs : M.1 4 2 = nI s := hs
  have hs14 : s ≤ 14 := hs14
  refine z_aload_n hx 0 dX5_undo_0 rfl rfl ?_
  refine zg_X5_3 hx zw_177 dX5_undo_1 ?_
  refine zg_X0_2 hx zw_115 dX5_undo_4 ?_
  refine z_eqi (b := nI s) hs ?_
  refine z_if_ne_n (tgt := 13) hx (by omega) dX5_undo_7 (by decide) (fun h7 => ?_) (fun h7 => ?_)
  · skip
    obtain ⟨p, rfl⟩ : ∃ p, s = p + 1 := ⟨s - 1, by omega⟩
    refine z_aload_n hx 0 dX5_undo_13 rfl rfl ?_
    refine zg_X5_3 hx zw_177 dX5_undo_14 ?_
    refine z_aload_n hx 0 dX5_undo_17 rfl rfl ?_
    refine zg_X5_1 hx zw_175 dX5_undo_18 ?_
    refine z_callV hx (As := [.ref (E.2.2.2 46)]) (st := []) (kc_takeBack hI M hA) zw_341 zy_X0_takeBack ⟨rfl, rfl⟩ (by decide) (zOB_X0 E) rfl rfl rfl rfl (Nat.le_of_ble_eq_true rfl) dX5_undo_21 ?_
    rintro _ M21 ⟨rfl, q21⟩
    show zJ E x 24 _ [] _
    refine z_aload_n hx 0 dX5_undo_24 rfl rfl ?_
    refine zg_X5_3 hx zw_177 dX5_undo_25 ?_
    refine zg_X0_2 hx zw_115 dX5_undo_28 ?_
    refine z_eqi (b := nI p) (by obtain ⟨_, _, _, z, _⟩ := q21.2.1; exact z) ?_
    exact ri _ _ _ _ rfl ⟨_, rfl, (by
        rw [zop_undo, if_neg (by show ¬ p + 1 = 0; omega)]
        have hf := q21.2.2
        refine ⟨rfl, ⟨zTx_fr hT hf (by omega) (by omega), q21.1, q21.2.1, zSl_fr hS hf (by omega) (fun c z1 z2 => by omega), by show M21.2 0 8 = sd; rw [(hf 0 (by omega)).2]; exact hsd, ⟨fun i hi => ?_, fun k z hk hz => ?_⟩⟩, zfr_w hf (fun c h => by omega)⟩
        · exact (hO.1 i (by show i < p + 1; have hi2 : i < p := hi; omega)).trans (Eq.symm (hO.1 p (by show p < p + 1; omega)))
        · exact (hO.2 k z hk hz).trans (Eq.symm (hO.1 p (by show p < p + 1; omega))))⟩ dX5_undo_31
  · skip
    refine z_bipush hx (v := (-3)) dX5_undo_10 rfl ?_
    exact ri _ _ _ _ rfl ⟨_, rfl, (by rw [zop_undo, if_pos h7]; exact ⟨rfl, hσ2, zfr_rf _ _⟩)⟩ dX5_undo_12
theorem zlt_nI {x : Int32} {m : Nat} (hm : m < 2 ^ 31) (h1 : ¬ x < 0) (h2 : x < nI m) : ∃ j : Nat, j < m ∧ x = nI j := by
  obtain ⟨j, hj, rfl⟩ := nI_of h1
  exact ⟨j, (nI_ltI hj hm).mp h2, rfl⟩
def zop_keep (σ : zSt) (t : Int32) : Int32 × zSt := if t < 0 ∨ ¬ t < nI 2 then (-1, σ) else (nI σ.2.2.1.2.1, (σ.1, σ.2.1, σ.2.2.1, σ.2.2.2.1, σ.2.2.2.2.1, va_up σ.2.2.2.2.2.1 t.toNatClampNeg (some σ.2.2.1), σ.2.2.2.2.2.2))
set_option maxHeartbeats 4000000 in
set_option maxRecDepth 100000 in
theorem k_X5_keep {E : zE} (hI : zI E) (M : zM) {σ : zSt} (hσ : zCs M σ) (t : Int32) : zK E yX5_keep (.code yX5_keep cX5_keep 2 (some .int)) (zrm 2 47) [.ref (E.2.2.2 0), .int t] M (zpi (fun v M2 => v = (zop_keep σ t).1 ∧ zCs M2 (zop_keep σ t).2 ∧ zfC M M2)) := by
  refine zK_of hI (by decide) (Nat.le_of_ble_eq_true rfl) (fun x hx ri rz rl rv => ?_)
  show zJ E x 0 [(0, .ref (E.2.2.2 0)), (1, .int t)] [] M
  obtain ⟨tx, len, ⟨w, n, mm, cd, rd⟩, as, s, sl, sd⟩ := σ
  have hσ2 := hσ
  obtain ⟨hT, hH, hA, hS, hD, hO⟩ := hσ
  have hR : zRm M 46 w n mm cd rd := hH
  have hTx : zTx M tx len := hT
  have hn8 := hR.2.2.2.2.2.1
  have hw4 := hR.2.1
  have hlen := hTx.2.1
  have hsd : M.2 0 8 = sd := hD
  obtain ⟨o, ho14, ho, hs, hs14, has⟩ := id hA
  have hs : M.1 4 2 = nI s := hs
  have hs14 : s ≤ 14 := hs14
  refine z_iload_n hx 1 dX5_keep_0 rfl rfl ?_
  refine z_if_lt (tgt := 9) hx dX5_keep_1 (by decide) (fun h1 => ?_) (fun h1 => ?_)
  · skip
    refine z_iconst hx (v := (-1)) dX5_keep_9 rfl ?_
    exact ri _ _ _ _ rfl ⟨_, rfl, (by rw [zop_keep, if_pos (by first | exact Or.inl h1 | exact Or.inr h6)]; exact ⟨rfl, hσ2, zfr_rf _ _⟩)⟩ dX5_keep_10
  · skip
    refine z_iload_n hx 1 dX5_keep_4 rfl rfl ?_
    refine z_iconst hx (v := nI 2) dX5_keep_5 (by decide +kernel) ?_
    refine z_icmp_lt (tgt := 11) hx dX5_keep_6 (by decide) (fun h6 => ?_) (fun h6 => ?_)
    · skip
      obtain ⟨k, hk, rfl⟩ := zlt_nI (by decide) h1 h6
      refine z_aload_n hx 0 dX5_keep_11 rfl rfl ?_
      refine zg_X5_4 hx zw_178 dX5_keep_12 ?_
      refine z_iload_n hx 1 dX5_keep_15 rfl rfl ?_
      refine z_aald_n hx (zRA_6 E) (by omega) dX5_keep_16 ?_
      refine z_aload_n hx 0 dX5_keep_17 rfl rfl ?_
      refine zg_X5_1 hx zw_175 dX5_keep_18 ?_
      refine z_callV hx (As := [.ref (E.2.2.2 46)]) (st := []) (k_X3_copy hI M (a := 94 + 3 * k) (b := 46) (zRoom_s (by omega)) zRoom_46 (by omega)) zw_460 zy_X3_copy ⟨rfl, rfl⟩ (by decide) (zOB_room (zRoom_s (by omega)) E) rfl rfl rfl rfl (Nat.le_of_ble_eq_true rfl) dX5_keep_21 ?_
      rintro _ M21 ⟨rfl, q21⟩
      show zJ E x 24 _ [] _
      refine z_aload_n hx 0 dX5_keep_24 rfl rfl ?_
      refine zg_X5_5 hx zw_179 dX5_keep_25 ?_
      refine z_iload_n hx 1 dX5_keep_28 rfl rfl ?_
      refine z_iconst hx (v := nI 1) dX5_keep_29 (by decide +kernel) ?_
      refine z_zast_n hx (zZA_3 E) (by omega) (Or.inr rfl) dX5_keep_30 ?_
      refine z_aload_n hx 0 dX5_keep_31 rfl rfl ?_
      refine zg_X5_1 hx zw_175 dX5_keep_32 ?_
      refine zg_X3_2 hx zRoom_46 zw_86 dX5_keep_35 ?_
      refine z_eqi (b := nI n) (zskI (by omega) (by rw [(q21.2.2 46 (by omega)).1]; exact hR.2.2.2.2.1)) ?_
      exact ri _ _ _ _ rfl ⟨_, rfl, (by
          rw [zop_keep, if_neg (by rintro (z | z); exact h1 z; exact z h6), nI_clamp (by omega)]
          have hf : zfr (fun c => c = 3 ∨ 94 + 3 * k ≤ c ∧ c ≤ 94 + 3 * k + 2) M (zputI M21 3 k (nI 1)) := zfr_tr (zfr_w q21.2.2 (fun c h => Or.inr h)) (zfr_putI (Or.inl rfl))
          refine ⟨rfl, ⟨zTx_fr hT hf (by omega) (by omega), zHr_fr hH hf (by omega) (by omega) (by omega), zAc_fr hA hf (by omega) (fun c z1 z2 => by omega), fun j hj => ?_, by show M21.2 0 8 = sd; rw [(q21.2.2 0 (by omega)).2]; exact hsd, ⟨hO.1, fun j z hj hz => ?_⟩⟩, zfr_w hf (fun c h => by omega)⟩
          · by_cases e : j = k
            · subst e
              refine Or.inr ⟨(w, n, mm, cd, rd), by simp [va_up], zhtI, ?_⟩
              exact zHr_eq (M := M) (b := 46) ⟨fun i hi => zskI (by omega) (q21.1 i hi), fun i hi => ⟨zskI (by omega) (q21.2.1 i hi).1, zskI (by omega) (q21.2.1 i hi).2⟩⟩ hH
            · rcases hS j hj with ⟨z1, z2⟩ | ⟨q, z1, z2, z3⟩
              · exact Or.inl ⟨by simp only [va_up, if_neg e]; exact z1, zskK e (by rw [(q21.2.2 3 (by omega)).1]; exact z2)⟩
              · exact Or.inr ⟨q, by simp only [va_up, if_neg e]; exact z1, zskK e (by rw [(q21.2.2 3 (by omega)).1]; exact z2), zHr_fr z3 hf (by omega) (by omega) (by omega)⟩
          · have hz2 : va_up sl k (some (w, n, mm, cd, rd)) j = some z := hz
            unfold va_up at hz2
            by_cases e : j = k
            · rw [if_pos e] at hz2
              cases hz2
              rfl
            · rw [if_neg e] at hz2
              exact hO.2 j z hj hz2)⟩ dX5_keep_38
    · skip
      refine z_iconst hx (v := (-1)) dX5_keep_9 rfl ?_
      exact ri _ _ _ _ rfl ⟨_, rfl, (by rw [zop_keep, if_pos (by first | exact Or.inl h1 | exact Or.inr h6)]; exact ⟨rfl, hσ2, zfr_rf _ _⟩)⟩ dX5_keep_10
def zop_again (σ : zSt) (t : Int32) : Int32 × zSt := if t < 0 ∨ ¬ t < nI 2 then (-1, σ) else match σ.2.2.2.2.2.1 t.toNatClampNeg with
  | none => (-3, σ)
  | some q => (nI q.2.1, (σ.1, σ.2.1, q, σ.2.2.2.1, 0, σ.2.2.2.2.2.1, σ.2.2.2.2.2.2))
set_option maxHeartbeats 4000000 in
set_option maxRecDepth 100000 in
theorem k_X5_again {E : zE} (hI : zI E) (M : zM) {σ : zSt} (hσ : zCs M σ) (t : Int32) : zK E yX5_again (.code yX5_again cX5_again 2 (some .int)) (zrm 2 47) [.ref (E.2.2.2 0), .int t] M (zpi (fun v M2 => v = (zop_again σ t).1 ∧ zCs M2 (zop_again σ t).2 ∧ zfC M M2)) := by
  refine zK_of hI (by decide) (Nat.le_of_ble_eq_true rfl) (fun x hx ri rz rl rv => ?_)
  show zJ E x 0 [(0, .ref (E.2.2.2 0)), (1, .int t)] [] M
  obtain ⟨tx, len, ⟨w, n, mm, cd, rd⟩, as, s, sl, sd⟩ := σ
  have hσ2 := hσ
  obtain ⟨hT, hH, hA, hS, hD, hO⟩ := hσ
  have hR : zRm M 46 w n mm cd rd := hH
  have hTx : zTx M tx len := hT
  have hn8 := hR.2.2.2.2.2.1
  have hw4 := hR.2.1
  have hlen := hTx.2.1
  have hsd : M.2 0 8 = sd := hD
  obtain ⟨o, ho14, ho, hs, hs14, has⟩ := id hA
  have hs : M.1 4 2 = nI s := hs
  have hs14 : s ≤ 14 := hs14
  refine z_iload_n hx 1 dX5_again_0 rfl rfl ?_
  refine z_if_lt (tgt := 9) hx dX5_again_1 (by decide) (fun h1 => ?_) (fun h1 => ?_)
  · skip
    refine z_iconst hx (v := (-1)) dX5_again_9 rfl ?_
    exact ri _ _ _ _ rfl ⟨_, rfl, (by rw [zop_again, if_pos (by first | exact Or.inl h1 | exact Or.inr h6)]; exact ⟨rfl, hσ2, zfr_rf _ _⟩)⟩ dX5_again_10
  · skip
    refine z_iload_n hx 1 dX5_again_4 rfl rfl ?_
    refine z_iconst hx (v := nI 2) dX5_again_5 (by decide +kernel) ?_
    refine z_icmp_lt (tgt := 11) hx dX5_again_6 (by decide) (fun h6 => ?_) (fun h6 => ?_)
    · skip
      obtain ⟨k, hk, rfl⟩ := zlt_nI (by decide) h1 h6
      refine z_aload_n hx 0 dX5_again_11 rfl rfl ?_
      refine zg_X5_5 hx zw_179 dX5_again_12 ?_
      refine z_iload_n hx 1 dX5_again_15 rfl rfl ?_
      refine z_zald_n hx (zZA_3 E) (by omega) dX5_again_16 ?_
      rcases hS k hk with ⟨hs1, hs2⟩ | ⟨⟨w1, n1, mm1, cd1, rd1⟩, hs1, hs2, hs3⟩
      · skip
        refine z_eqi (b := nI 0) hs2 ?_
        refine z_if_ne_n (tgt := 23) hx (by decide) dX5_again_17 (by decide) (fun h => absurd h (by decide)) (fun _ => ?_)
        refine z_bipush hx (v := (-3)) dX5_again_20 rfl ?_
        exact ri _ _ _ _ rfl ⟨_, rfl, (by rw [zop_again, if_neg (by rintro (z | z); exact h1 z; exact z h6), nI_clamp (by omega), hs1]; exact ⟨rfl, hσ2, zfr_rf _ _⟩)⟩ dX5_again_22
      · skip
        refine z_eqi (b := nI 1) hs2 ?_
        have hR1 : zRm M (94 + 3 * k) w1 n1 mm1 cd1 rd1 := hs3
        refine z_if_ne_n (tgt := 23) hx (by decide) dX5_again_17 (by decide) (fun _ => ?_) (fun h => absurd h (by decide))
        refine z_aload_n hx 0 dX5_again_23 rfl rfl ?_
        refine zg_X5_1 hx zw_175 dX5_again_24 ?_
        refine z_aload_n hx 0 dX5_again_27 rfl rfl ?_
        refine zg_X5_4 hx zw_178 dX5_again_28 ?_
        refine z_iload_n hx 1 dX5_again_31 rfl rfl ?_
        refine z_aald_n hx (zRA_6 E) (by omega) dX5_again_32 ?_
        refine z_callV hx (As := [.ref (E.2.2.2 (94 + 3 * k))]) (st := []) (k_X3_copy hI M (a := 46) (b := 94 + 3 * k) zRoom_46 (zRoom_s (by omega)) (by omega)) zw_460 zy_X3_copy ⟨rfl, rfl⟩ (by decide) (zOB_room zRoom_46 E) rfl rfl rfl rfl (Nat.le_of_ble_eq_true rfl) dX5_again_33 ?_
        rintro _ M33 ⟨rfl, q33⟩
        show zJ E x 36 _ [] _
        refine z_aload_n hx 0 dX5_again_36 rfl rfl ?_
        refine zg_X5_3 hx zw_177 dX5_again_37 ?_
        refine z_callV hx (As := []) (st := []) (k_X0_forgetAll hI M33) zw_272 zy_X0_forgetAll ⟨rfl, rfl⟩ (by decide) (zOB_X0 E) rfl rfl rfl rfl (Nat.le_of_ble_eq_true rfl) dX5_again_40 ?_
        rintro _ M40 ⟨rfl, q40⟩
        subst q40
        show zJ E x 43 _ [] _
        refine z_aload_n hx 0 dX5_again_43 rfl rfl ?_
        refine zg_X5_1 hx zw_175 dX5_again_44 ?_
        refine zg_X3_2 hx zRoom_46 zw_86 dX5_again_47 ?_
        refine z_eqi (b := nI n1) (zskI (by omega) ((q33.1 2 (by omega)).trans hR1.2.2.2.2.1)) ?_
        exact ri _ _ _ _ rfl ⟨_, rfl, (by
            rw [zop_again, if_neg (by rintro (z | z); exact h1 z; exact z h6), nI_clamp (by omega), hs1]
            have hf : zfr (fun c => c = 4 ∨ 46 ≤ c ∧ c ≤ 48) M (zputI M33 4 2 (nI 0)) := zfr_tr (zfr_w q33.2.2 (fun c h => Or.inr h)) (zfr_putI (Or.inl rfl))
            have hH1 : zHr (zputI M33 4 2 (nI 0)) 46 (w1, n1, mm1, cd1, rd1) := zHr_eq (M := M) (b := 94 + 3 * k) ⟨fun i hi => zskI (by omega) (q33.1 i hi), fun i hi => ⟨zskI (by omega) (q33.2.1 i hi).1, zskI (by omega) (q33.2.1 i hi).2⟩⟩ hs3
            refine ⟨rfl, ⟨zTx_fr hT hf (by omega) (by omega), hH1, ⟨o, ho14, zskK (by omega) (by rw [(q33.2.2 4 (by omega)).1]; exact ho), zhtI, by show 0 ≤ 14; omega, fun i hi => absurd hi (Nat.not_lt_zero _)⟩, zSl_fr hS hf (by omega) (fun c z1 z2 => by omega), by show M33.2 0 8 = sd; rw [(q33.2.2 0 (by omega)).2]; exact hsd, ⟨fun i hi => absurd hi (Nat.not_lt_zero _), fun j z hj hz => ?_⟩⟩, zfr_w hf (fun c h => by omega)⟩
            exact (hO.2 j z hj hz).trans (Eq.symm (hO.2 k _ hk hs1)))⟩ dX5_again_50
    · skip
      refine z_iconst hx (v := (-1)) dX5_again_9 rfl ?_
      exact ri _ _ _ _ rfl ⟨_, rfl, (by rw [zop_again, if_pos (by first | exact Or.inl h1 | exact Or.inr h6)]; exact ⟨rfl, hσ2, zfr_rf _ _⟩)⟩ dX5_again_10
def zop_count (σ : zSt) (t : Int32) : Int32 := if t.toInt = 0 then nI σ.2.1 else if t.toInt = 1 then nI σ.2.2.1.1 else if t.toInt = 2 then nI σ.2.2.1.2.2.1 else if t.toInt = 3 then nI σ.2.2.1.2.1 else if t.toInt = 4 then nI σ.2.2.2.2.1 else -2
set_option maxHeartbeats 4000000 in
set_option maxRecDepth 100000 in
theorem k_X5_count {E : zE} (hI : zI E) (M : zM) {σ : zSt} (hσ : zCs M σ) (t : Int32) : zK E yX5_count (.code yX5_count cX5_count 2 (some .int)) (zrm 0 0) [.ref (E.2.2.2 0), .int t] M (zpi (fun v M2 => v = zop_count σ t ∧ M2 = M)) := by
  refine zK_of hI (by decide) (Nat.le_of_ble_eq_true rfl) (fun x hx ri rz rl rv => ?_)
  show zJ E x 0 [(0, .ref (E.2.2.2 0)), (1, .int t)] [] M
  obtain ⟨tx, len, ⟨w, n, mm, cd, rd⟩, as, s, sl, sd⟩ := σ
  have hσ2 := hσ
  obtain ⟨hT, hH, hA, hS, hD, hO⟩ := hσ
  have hR : zRm M 46 w n mm cd rd := hH
  have hTx : zTx M tx len := hT
  have hn8 := hR.2.2.2.2.2.1
  have hw4 := hR.2.1
  have hlen := hTx.2.1
  have hsd : M.2 0 8 = sd := hD
  obtain ⟨o, ho14, ho, hs, hs14, has⟩ := id hA
  have hs : M.1 4 2 = nI s := hs
  have hs14 : s ≤ 14 := hs14
  refine z_iload_n hx 1 dX5_count_0 rfl rfl ?_
  by_cases hsw : t.toInt < 0 ∨ 4 < t.toInt
  · skip
    refine z_tableOut (tgt := 76) hx dX5_count_1 hsw (by decide) ?_
    refine z_bipush hx (v := (-2)) dX5_count_76 rfl ?_
    exact ri _ _ _ _ rfl ⟨_, rfl, ⟨by unfold zop_count; (repeat (first | rw [if_pos (by omega)] | rw [if_neg (by omega)])), rfl⟩⟩ dX5_count_78
  by_cases hs0 : t.toInt = 0
  · skip
    refine z_tableIn (off := 35) (tgt := 36) hx dX5_count_1 (by omega) (by omega) (by rw [hs0]; rfl) (by decide) ?_
    refine z_aload_n hx 0 dX5_count_36 rfl rfl ?_
    refine zg_X5_0 hx zw_174 dX5_count_37 ?_
    refine zg_X4_1 hx zw_66 dX5_count_40 ?_
    refine z_eqi (b := nI len) hTx.1 ?_
    exact ri _ _ _ _ rfl ⟨_, rfl, ⟨by unfold zop_count; (repeat (first | rw [if_pos (by omega)] | rw [if_neg (by omega)])), rfl⟩⟩ dX5_count_43
  by_cases hs1 : t.toInt = 1
  · skip
    refine z_tableIn (off := 43) (tgt := 44) hx dX5_count_1 (by omega) (by omega) (by rw [hs1]; rfl) (by decide) ?_
    refine z_aload_n hx 0 dX5_count_44 rfl rfl ?_
    refine zg_X5_1 hx zw_175 dX5_count_45 ?_
    refine zg_X3_0 hx zRoom_46 zw_81 dX5_count_48 ?_
    refine z_eqi (b := nI w) hR.1 ?_
    exact ri _ _ _ _ rfl ⟨_, rfl, ⟨by unfold zop_count; (repeat (first | rw [if_pos (by omega)] | rw [if_neg (by omega)])), rfl⟩⟩ dX5_count_51
  by_cases hs2 : t.toInt = 2
  · skip
    refine z_tableIn (off := 51) (tgt := 52) hx dX5_count_1 (by omega) (by omega) (by rw [hs2]; rfl) (by decide) ?_
    refine z_aload_n hx 0 dX5_count_52 rfl rfl ?_
    refine zg_X5_1 hx zw_175 dX5_count_53 ?_
    refine zg_X3_1 hx zRoom_46 zw_83 dX5_count_56 ?_
    refine z_eqi (b := nI mm) hR.2.2.1 ?_
    exact ri _ _ _ _ rfl ⟨_, rfl, ⟨by unfold zop_count; (repeat (first | rw [if_pos (by omega)] | rw [if_neg (by omega)])), rfl⟩⟩ dX5_count_59
  by_cases hs3 : t.toInt = 3
  · skip
    refine z_tableIn (off := 59) (tgt := 60) hx dX5_count_1 (by omega) (by omega) (by rw [hs3]; rfl) (by decide) ?_
    refine z_aload_n hx 0 dX5_count_60 rfl rfl ?_
    refine zg_X5_1 hx zw_175 dX5_count_61 ?_
    refine zg_X3_2 hx zRoom_46 zw_86 dX5_count_64 ?_
    refine z_eqi (b := nI n) hR.2.2.2.2.1 ?_
    exact ri _ _ _ _ rfl ⟨_, rfl, ⟨by unfold zop_count; (repeat (first | rw [if_pos (by omega)] | rw [if_neg (by omega)])), rfl⟩⟩ dX5_count_67
  have hs4 : t.toInt = 4 := by omega
  · skip
    refine z_tableIn (off := 67) (tgt := 68) hx dX5_count_1 (by omega) (by omega) (by rw [hs4]; rfl) (by decide) ?_
    refine z_aload_n hx 0 dX5_count_68 rfl rfl ?_
    refine zg_X5_3 hx zw_177 dX5_count_69 ?_
    refine zg_X0_2 hx zw_115 dX5_count_72 ?_
    refine z_eqi (b := nI s) hs ?_
    exact ri _ _ _ _ rfl ⟨_, rfl, ⟨by unfold zop_count; (repeat (first | rw [if_pos (by omega)] | rw [if_neg (by omega)])), rfl⟩⟩ dX5_count_75
theorem zFt_m9 {tx : Nat → Nat} {len : Nat} {v : Int32} (hl : len ≤ 90) (h : zFt tx len v) : v = -9 ↔ ∃ n, zTok tx len n := by
  have hne : ∀ k, k ≤ 90 → ¬ nI k = -9 := by
    have : ∀ k, k < 91 → ¬ nI k = -9 := by decide +kernel
    intro k hk
    exact this k (by omega)
  constructor
  · intro e
    rcases h with ⟨k, h1, h2, h3, h4⟩ | ⟨h1, ⟨h2, h3, h4⟩ | ⟨h2, h3⟩⟩
    · exact absurd (Eq.trans (Eq.symm h4) e) (hne k (by omega))
    · exact ⟨_, zTok_of h2 h3 h1⟩
    · exact absurd (Eq.trans (Eq.symm h3) e) (hne len hl)
  · rintro ⟨n, hn⟩
    rcases h with ⟨k, h1, h2, h3, h4⟩ | ⟨h1, ⟨h2, h3, h4⟩ | ⟨h2, h3⟩⟩
    · exact absurd (hn.2.2 k h1) h3
    · exact h4
    · refine absurd ⟨by have := hn.1; omega, ?_⟩ h2
      rw [hn.1, show 4 + n * (zwt tx + 6) - 4 = 0 + n * (zwt tx + 6) by omega, Nat.add_mul_mod_self_right, Nat.zero_mod]
set_option maxHeartbeats 4000000 in
set_option maxRecDepth 100000 in
theorem k_X5_room {E : zE} (hI : zI E) (M : zM) {σ : zSt} (hσ : zCs M σ)  : zK E yX5_room (.code yX5_room cX5_room 2 (some .int)) (zrm 5 109) [.ref (E.2.2.2 0)] M (zpi (fun v M2 => (∃ n, zTok σ.1 σ.2.1 n ∧ v = nI n ∧ zCs M2 (σ.1, σ.2.1, (zwt σ.1, n, zmmT σ.1, zcdT σ.1, zrdR σ.1), σ.2.2.2.1, 0, (fun _ => none), σ.2.2.2.2.2.2) ∧ zfC M M2) ∨ ((¬ ∃ n, zTok σ.1 σ.2.1 n) ∧ v = -3 ∧ M2 = M))) := by
  refine zK_of hI (by decide) (Nat.le_of_ble_eq_true rfl) (fun x hx ri rz rl rv => ?_)
  show zJ E x 0 [(0, .ref (E.2.2.2 0))] [] M
  obtain ⟨tx, len, ⟨w, n, mm, cd, rd⟩, as, s, sl, sd⟩ := σ
  have hσ2 := hσ
  obtain ⟨hT, hH, hA, hS, hD, hO⟩ := hσ
  have hR : zRm M 46 w n mm cd rd := hH
  have hTx : zTx M tx len := hT
  have hn8 := hR.2.2.2.2.2.1
  have hw4 := hR.2.1
  have hlen := hTx.2.1
  have hsd : M.2 0 8 = sd := hD
  obtain ⟨o, ho14, ho, hs, hs14, has⟩ := id hA
  have hs : M.1 4 2 = nI s := hs
  have hs14 : s ≤ 14 := hs14
  refine z_aload_n hx 0 dX5_room_0 rfl rfl ?_
  refine zg_X5_0 hx zw_174 dX5_room_1 ?_
  refine z_callV hx (As := []) (st := []) (k_X4_faultPlace hI M hTx) zw_214 zy_X4_faultPlace ⟨rfl, rfl⟩ (by decide) (zOB_X4 E) rfl rfl rfl rfl (Nat.le_of_ble_eq_true rfl) dX5_room_4 ?_
  rintro _ M4 ⟨v4, rfl, q4⟩
  obtain ⟨q4, hmm⟩ := q4
  rw [hmm]
  show zJ E x 7 _ [.int v4] _
  refine z_bipush hx (v := (-9)) dX5_room_7 rfl ?_
  refine z_icmp_eq (tgt := 15) hx dX5_room_9 (by decide) (fun h9 => ?_) (fun h9 => ?_)
  · skip
    obtain ⟨n1, hok⟩ := (zFt_m9 hlen q4).mp h9
    have hn18 := hok.2.1
    refine z_aload_n hx 0 dX5_room_15 rfl rfl ?_
    refine zg_X5_1 hx zw_175 dX5_room_16 ?_
    refine z_aload_n hx 0 dX5_room_19 rfl rfl ?_
    refine zg_X5_0 hx zw_174 dX5_room_20 ?_
    refine z_callV hx (As := [.ref (E.2.2.2 1)]) (st := []) (k_X3_takeFrom hI M hTx hok) zw_240 zy_X3_takeFrom ⟨rfl, rfl⟩ (by decide) (zOB_room zRoom_46 E) rfl rfl rfl rfl (Nat.le_of_ble_eq_true rfl) dX5_room_23 ?_
    rintro _ M23 ⟨rfl, q23⟩
    show zJ E x 26 _ [] _
    refine z_aload_n hx 0 dX5_room_26 rfl rfl ?_
    refine zg_X5_3 hx zw_177 dX5_room_27 ?_
    refine z_callV hx (As := []) (st := []) (k_X0_forgetAll hI M23) zw_272 zy_X0_forgetAll ⟨rfl, rfl⟩ (by decide) (zOB_X0 E) rfl rfl rfl rfl (Nat.le_of_ble_eq_true rfl) dX5_room_30 ?_
    rintro _ M30 ⟨rfl, q30⟩
    subst q30
    show zJ E x 33 _ [] _
    refine z_iconst hx (v := nI 0) dX5_room_33 (by decide +kernel) ?_
    refine z_istore_n hx (lv2 := [(1, .int (nI 0)), (0, .ref (E.2.2.2 0))]) dX5_room_34 rfl (by decide) rfl ?_
    have loop35 : ∀ (fuel35 : Nat) (k : Nat) (N : zM) (_ : k ≤ 2) (_ : zfr (fun c => c = 3) (zputI M23 4 2 (nI 0)) N) (_ : ∀ j, j < k → N.1 3 j = nI 0), 2 - k < fuel35 → zJ E x 35 [(1, .int (nI k)), (0, .ref (E.2.2.2 0))] [] N := by
      intro fuel35
      induction fuel35 with
      | zero =>
        intros; omega
      | succ fuel35 ih35 =>
        intro k N hk hNf hNz hfuel35
        refine z_iload_n hx 0 dX5_room_35 rfl rfl ?_
        refine z_iconst hx (v := nI 2) dX5_room_36 (by decide +kernel) ?_
        refine z_icmp_ge_n (tgt := 53) hx (by omega) (by omega) dX5_room_37 (by decide) (fun h37 => ?_) (fun h37 => ?_)
        · skip
          refine z_aload_n hx 1 dX5_room_53 rfl rfl ?_
          refine zg_X5_1 hx zw_175 dX5_room_54 ?_
          refine zg_X3_2 hx zRoom_46 zw_86 dX5_room_57 ?_
          refine z_eqi (b := nI n1) (by rw [(hNf 46 (by omega)).1]; exact zskI (by omega) q23.1.2.2.2.2.1) ?_
          exact ri _ _ _ _ rfl ⟨_, rfl, Or.inl ⟨n1, hok, rfl, by
              have hf : zfr (fun c => c = 3 ∨ c = 4 ∨ 46 ≤ c ∧ c ≤ 48) M N := zfr_tr (zfr_w q23.2 (fun c h => by omega)) (zfr_tr (zfr_putI (Or.inr (Or.inl rfl))) (zfr_w hNf (fun c h => Or.inl h)))
              refine ⟨⟨zTx_fr hT hf (by omega) (by omega), zRm_fr (zRm_fr q23.1 (zfr_putI (cs := fun c => c = 4) rfl) (by omega) (by omega) (by omega)) hNf (by omega) (by omega) (by omega), ⟨o, ho14, by rw [(hNf 4 (by omega)).1]; exact zskK (by omega) (by rw [(q23.2 4 (by omega)).1]; exact ho), by rw [(hNf 4 (by omega)).1]; exact zhtI, by show 0 ≤ 14; omega, fun i hi => absurd hi (Nat.not_lt_zero _)⟩, fun j hj => Or.inl ⟨rfl, hNz j (by omega)⟩, by show N.2 0 8 = sd; rw [(hf 0 (by omega)).2]; exact hsd, ⟨fun i hi => absurd hi (Nat.not_lt_zero _), fun j z hj hz => by cases hz⟩⟩, zfr_w hf (fun c h => by omega)⟩⟩⟩ dX5_room_60
        · skip
          refine z_aload_n hx 1 dX5_room_40 rfl rfl ?_
          refine zg_X5_5 hx zw_179 dX5_room_41 ?_
          refine z_iload_n hx 0 dX5_room_44 rfl rfl ?_
          refine z_iconst hx (v := nI 0) dX5_room_45 (by decide +kernel) ?_
          refine z_zast_n hx (zZA_3 E) (by omega) (Or.inl rfl) dX5_room_46 ?_
          refine z_iinc hx (w := nI (k + 1)) (lv2 := [(1, .int (nI (k + 1))), (0, .ref (E.2.2.2 0))]) 0 dX5_room_47 rfl (z_inc _) (by decide) rfl ?_
          refine z_goto (tgt := 35) hx dX5_room_50 (by decide) ?_
          exact z_to (ih35 (k + 1) (zputI N 3 k (nI 0)) (by omega) (zfr_tr hNf (zfr_putI rfl)) (fun j hj => by
              rw [zg_putI]
              by_cases e : j = k
              · rw [if_pos ⟨rfl, e⟩]
              · rw [if_neg (fun z => e z.2)]
                exact hNz j (by omega)) (by omega)) [0, 1] rfl rfl
    exact z_to (loop35 _ 0 (zputI M23 4 2 (nI 0)) (by omega) (zfr_rf _ _) (fun j hj => by omega) (Nat.lt_succ_self _)) [0, 1] rfl rfl
  · skip
    refine z_bipush hx (v := (-3)) dX5_room_12 rfl ?_
    exact ri _ _ _ _ rfl ⟨_, rfl, Or.inr ⟨fun z => h9 ((zFt_m9 hlen q4).mpr z), rfl, rfl⟩⟩ dX5_room_14
