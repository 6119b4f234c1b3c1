theorem zTx_fr {cs : Nat → Prop} {M N : zM} {tx : Nat → Nat} {len : Nat} (h : zTx M tx len) (hf : zfr cs M N) (h1 : ¬ cs 1) (h2 : ¬ cs 2) : zTx N tx len := ⟨by rw [(hf 1 h1).1]; exact h.1, h.2.1, fun k hk => by rw [(hf 2 h2).1]; exact h.2.2 k hk⟩
theorem zmod_at {e t i : Nat} (h : i < e) : (4 + t * e + i - 4) % e = i ∧ (4 + t * e + i - 4) / e = t := by
  have e1 : 4 + t * e + i - 4 = i + t * e := by omega
  rw [e1, Nat.add_mul_mod_self_right, Nat.mod_eq_of_lt h, Nat.add_mul_div_right _ _ (by omega), Nat.div_eq_of_lt h]
  exact ⟨rfl, Nat.zero_add t⟩
/-- what the letters of a weighing are, all fitting -/
theorem zfit_w {tx : Nat → Nat} {t : Nat} (h : zfit tx (4 + t * (zwt tx + 6) + 0)) : tx (4 + t * (zwt tx + 6)) = 119 ∧ t < 8 := by
  have hm := zmod_at (e := zwt tx + 6) (t := t) (i := 0) (by omega)
  unfold zfit at h
  rw [if_neg (by omega), if_neg (by omega), if_neg (by omega), if_pos hm.1] at h
  exact ⟨h.1, by have := h.2; rw [hm.2] at this; exact this⟩
theorem zfit_f {tx : Nat → Nat} {t i : Nat} (h1 : zwt tx + 3 ≤ i) (h2 : i < zwt tx + 6) (h : zfit tx (4 + t * (zwt tx + 6) + i)) : zfig (tx (4 + t * (zwt tx + 6) + i)) := by
  have hm := zmod_at (e := zwt tx + 6) (t := t) (i := i) h2
  unfold zfit at h
  rw [if_neg (by omega), if_neg (by omega), if_neg (by omega), if_neg (by rw [hm.1]; omega), if_neg (by rw [hm.1]; omega), if_neg (by rw [hm.1]; omega)] at h
  exact h
/-- the text is a room: no fault -/
def zTok (tx : Nat → Nat) (len n : Nat) : Prop := len = 4 + n * (zwt tx + 6) ∧ n ≤ 8 ∧ ∀ j, j < len → zfit tx j
theorem zTok_of {tx : Nat → Nat} {len : Nat} (h4 : 4 ≤ len) (hm : (len - 4) % (zwt tx + 6) = 0) (hf : ∀ j, j < len → zfit tx j) : zTok tx len ((len - 4) / (zwt tx + 6)) := by
  have h1 := Nat.div_add_mod (len - 4) (zwt tx + 6)
  rw [hm, Nat.add_zero, Nat.mul_comm] at h1
  generalize hq : (len - 4) / (zwt tx + 6) = n at h1
  refine ⟨by omega, ?_, hf⟩
  rcases Nat.lt_or_ge 8 n with q | q
  · have h2 : 8 * (zwt tx + 6) + (zwt tx + 6) ≤ n * (zwt tx + 6) := by
      have := Nat.mul_le_mul_right (zwt tx + 6) (show 9 ≤ n by omega)
      omega
    have h3 := zfit_w (hf (4 + 8 * (zwt tx + 6) + 0) (by omega))
    omega
  · exact q
theorem zTok_n {tx : Nat → Nat} {len n : Nat} (h : zTok tx len n) : (len - 4) / (zwt tx + 6) = n := by
  rw [h.1, show 4 + n * (zwt tx + 6) - 4 = 0 + n * (zwt tx + 6) by omega, Nat.add_mul_div_right _ _ (by omega), Nat.zero_div, Nat.zero_add]
theorem zTok_t {tx : Nat → Nat} {len n t : Nat} (h : zTok tx len n) (hl : len ≤ 90) (ht : t < n) : 4 + t * (zwt tx + 6) + (zwt tx + 6) ≤ len := by
  have := Nat.mul_le_mul_right (zwt tx + 6) (show t + 1 ≤ n by omega)
  rw [Nat.add_mul, Nat.one_mul] at this
  have := h.1
  omega
def zcdT (tx : Nat → Nat) (t : Nat) : Nat := zcd tx (4 + t * (zwt tx + 6) + 1) (zwt tx + 1)
def zrdR (tx : Nat → Nat) (t : Nat) : Int := zrdT tx (4 + t * (zwt tx + 6) + zwt tx + 2)
def zmmT (tx : Nat → Nat) : Nat := 10 * (tx 2 - 48) + (tx 3 - 48)
theorem zfit_2 {tx : Nat → Nat} (h : zfit tx 2) : zfig (tx 2) := h
theorem zfit_3 {tx : Nat → Nat} (h : zfit tx 3) : zfig (tx 3) := h
theorem zrd_ab {tx : Nat → Nat} {s : Nat} (f1 : zfig (tx (s + 1))) (f2 : zfig (tx (s + 2))) (f3 : zfig (tx (s + 3))) : -999 ≤ zrdT tx s ∧ zrdT tx s ≤ 999 := by
  unfold zfig at *
  unfold zrdT zsz
  split <;> omega
theorem zmin8 {tx : Nat → Nat} {len n : Nat} (h : zTok tx len n) : (if nI 8 < nI ((len - 4) / (zwt tx + 6)) then nI 8 else nI ((len - 4) / (zwt tx + 6))) = nI n := by
  have := h.2.1
  rw [zTok_n h, if_neg (nI_nlt this (by decide))]
set_option maxHeartbeats 4000000 in
set_option maxRecDepth 100000 in
theorem k_X3_takeFrom {E : zE} (hI : zI E) (M : zM) {tx : Nat → Nat} {len n : Nat} (ht : zTx M tx len) (hok : zTok tx len n) : zK E yX3_takeFrom (.code yX3_takeFrom cX3_takeFrom 3 none) (zrm 4 87) [.ref (E.2.2.2 46), .ref (E.2.2.2 1)] M (zpv (fun M2 => zRm M2 46 (zwt tx) n (zmmT tx) (zcdT tx) (zrdR tx) ∧ zfr (fun c => 46 ≤ c ∧ c ≤ 48) M M2)) := by
  refine zK_of hI (by decide) (Nat.le_of_ble_eq_true rfl) (fun x hx ri rz rl rv => ?_)
  show zJ E x 0 [(0, .ref (E.2.2.2 46)), (1, .ref (E.2.2.2 1))] [] M
  have hw := zwt_in tx
  have hlen := ht.2.1
  have hn8 := hok.2.1
  have hl4 := hok.1
  have g2 := zfit_2 (hok.2.2 2 (by omega))
  have g3 := zfit_3 (hok.2.2 3 (by omega))
  have hmm : zmmT tx ≤ 99 := by unfold zmmT; unfold zfig at g2 g3; omega
  have hT : ∀ t, t < n → 4 + t * (zwt tx + 6) + (zwt tx + 6) ≤ len := fun t q => zTok_t hok hlen q
  have zf : ∀ t j, t < n → 1 ≤ j → j ≤ 3 → zfig (tx (4 + t * (zwt tx + 6) + zwt tx + 2 + j)) := fun t j q1 q2 q3 => by
    have h1 := hT t q1
    have h2 := zfit_f (t := t) (i := zwt tx + 2 + j) (by omega) (by omega) (hok.2.2 _ (by omega))
    rw [show 4 + t * (zwt tx + 6) + zwt tx + 2 + j = 4 + t * (zwt tx + 6) + (zwt tx + 2 + j) by omega]
    exact h2
  refine z_aload_n hx 0 dX3_takeFrom_0 rfl rfl ?_
  refine z_aload_n hx 1 dX3_takeFrom_1 rfl rfl ?_
  refine z_callV hx (As := []) (st := [.ref (E.2.2.2 46)]) (k_X4_weightsTold hI M (zTx_fr (cs := (fun c => 46 ≤ c ∧ c ≤ 48)) ht (zfr_rf _ _) (by omega) (by omega))) zw_244 zy_X4_weightsTold ⟨rfl, rfl⟩ (by decide) (zOB_X4 E) rfl rfl rfl rfl (Nat.le_of_ble_eq_true rfl) dX3_takeFrom_2 ?_
  rintro _ M2 ⟨v2, rfl, q2⟩
  obtain ⟨rfl, q2⟩ := q2
  rw [q2]
  show zJ E x 5 _ [.int (nI (zwt tx)), .ref (E.2.2.2 46)] _
  refine zp_X3_0 hx zRoom_46 zw_79 dX3_takeFrom_5 ?_
  refine z_aload_n hx 0 dX3_takeFrom_8 rfl rfl ?_
  refine z_aload_n hx 1 dX3_takeFrom_9 rfl rfl ?_
  refine z_callV hx (As := []) (st := [.ref (E.2.2.2 46)]) (k_X4_masterTold hI (zputI M 46 0 (nI (zwt tx))) (zTx_fr (cs := (fun c => 46 ≤ c ∧ c ≤ 48)) ht (zfr_tr (zfr_rf _ _) (zfr_putI (by omega))) (by omega) (by omega)) g2.1 g3.1) zw_245 zy_X4_masterTold ⟨rfl, rfl⟩ (by decide) (zOB_X4 E) rfl rfl rfl rfl (Nat.le_of_ble_eq_true rfl) dX3_takeFrom_10 ?_
  rintro _ M10 ⟨v10, rfl, q10⟩
  obtain ⟨rfl, q10⟩ := q10
  rw [q10]
  show zJ E x 13 _ [.int (nI (zmmT tx)), .ref (E.2.2.2 46)] _
  refine zp_X3_1 hx zRoom_46 zw_82 dX3_takeFrom_13 ?_
  refine z_aload_n hx 0 dX3_takeFrom_16 rfl rfl ?_
  refine z_aload_n hx 1 dX3_takeFrom_17 rfl rfl ?_
  refine z_callV hx (As := []) (st := [.ref (E.2.2.2 46)]) (k_X4_weighingsTold hI (zputI (zputI M 46 0 (nI (zwt tx))) 46 1 (nI (zmmT tx))) (zTx_fr (cs := (fun c => 46 ≤ c ∧ c ≤ 48)) ht (zfr_tr (zfr_tr (zfr_rf _ _) (zfr_putI (by omega))) (zfr_putI (by omega))) (by omega) (by omega)) (by omega)) zw_253 zy_X4_weighingsTold ⟨rfl, rfl⟩ (by decide) (zOB_X4 E) rfl rfl rfl rfl (Nat.le_of_ble_eq_true rfl) dX3_takeFrom_18 ?_
  rintro _ M18 ⟨v18, rfl, q18⟩
  obtain ⟨rfl, q18⟩ := q18
  rw [q18]
  show zJ E x 21 _ [.int (nI ((len - 4) / (zwt tx + 6))), .ref (E.2.2.2 46)] _
  refine z_bipush hx (v := nI 8) dX3_takeFrom_21 (by decide +kernel) ?_
  refine z_min hx zw_257 (by decide) (Nat.le_of_ble_eq_true rfl) dX3_takeFrom_23 ?_
  refine z_eqi (b := nI n) (zmin8 hok) ?_
  refine zp_X3_2 hx zRoom_46 zw_84 dX3_takeFrom_26 ?_
  refine z_iconst hx (v := nI 0) dX3_takeFrom_29 (by decide +kernel) ?_
  refine z_istore_n hx (lv2 := [(2, .int (nI 0)), (0, .ref (E.2.2.2 46)), (1, .ref (E.2.2.2 1))]) dX3_takeFrom_30 rfl (by decide) rfl ?_
  have loop31 : ∀ (fuel31 : Nat) (t : Nat) (N : zM) (_ : t ≤ n) (_ : zfr (fun c => 46 ≤ c ∧ c ≤ 48) M N) (_ : N.1 46 0 = nI (zwt tx)) (_ : N.1 46 1 = nI (zmmT tx)) (_ : N.1 46 2 = nI n) (_ : ∀ k, k < t → N.1 47 k = nI (zcdT tx k) ∧ N.1 48 k = Int32.ofInt (zrdR tx k)), n - t < fuel31 → zJ E x 31 [(2, .int (nI t)), (0, .ref (E.2.2.2 46)), (1, .ref (E.2.2.2 1))] [] N := by
    intro fuel31
    induction fuel31 with
    | zero =>
      intros; omega
    | succ fuel31 ih31 =>
      intro t N htn hNf hN0 hN1 hN2 hNs hfuel31
      refine z_iload_n hx 0 dX3_takeFrom_31 rfl rfl ?_
      refine z_aload_n hx 1 dX3_takeFrom_32 rfl rfl ?_
      refine zg_X3_2 hx zRoom_46 zw_84 dX3_takeFrom_33 ?_
      refine z_eqi (b := nI n) hN2 ?_
      refine z_icmp_ge_n (tgt := 67) hx (by omega) (by omega) dX3_takeFrom_36 (by decide) (fun h36 => ?_) (fun h36 => ?_)
      · skip
        exact rv _ _ _ rfl ⟨rfl, ⟨⟨hN0, hw, hN1, hmm, hN2, hn8, fun k hk => ⟨(hNs k (by omega)).1, zcd_5 _ _ (by omega), zcd_code _ _ _, (hNs k (by omega)).2, by have h := zrd_ab (zf k 1 hk (by omega) (by omega)) (zf k 2 hk (by omega) (by omega)) (zf k 3 hk (by omega) (by omega)); unfold zrdR; omega, by have h := zrd_ab (zf k 1 hk (by omega) (by omega)) (zf k 2 hk (by omega) (by omega)) (zf k 3 hk (by omega) (by omega)); unfold zrdR; omega⟩⟩, hNf⟩⟩ dX3_takeFrom_67
      · skip
        have hTt := hT t h36
        refine z_aload_n hx 1 dX3_takeFrom_39 rfl rfl ?_
        refine zg_X3_3 hx zRoom_46 zw_88 dX3_takeFrom_40 ?_
        refine z_iload_n hx 0 dX3_takeFrom_43 rfl rfl ?_
        refine z_aload_n hx 2 dX3_takeFrom_44 rfl rfl ?_
        refine z_iload_n hx 0 dX3_takeFrom_45 rfl rfl ?_
        refine z_callV hx (As := [.int (nI t)]) (st := [.int (nI t), .ref (E.2.2.2 (46 + 1))]) (k_X4_codeTold hI N (zTx_fr (cs := (fun c => 46 ≤ c ∧ c ≤ 48)) ht hNf (by omega) (by omega)) (t := t) (by omega)) zw_260 zy_X4_codeTold ⟨rfl, rfl⟩ (by decide) (zOB_X4 E) rfl rfl rfl rfl (Nat.le_of_ble_eq_true rfl) dX3_takeFrom_46 ?_
        rintro _ M46 ⟨v46, rfl, q46⟩
        obtain ⟨rfl, q46⟩ := q46
        rw [q46]
        show zJ E x 49 _ [.int (nI (zcdT tx t)), .int (nI t), .ref (E.2.2.2 (46 + 1))] _
        refine z_iast_n hx (zIA_codes zRoom_46 E) (by omega) dX3_takeFrom_49 ?_
        refine z_aload_n hx 1 dX3_takeFrom_50 rfl rfl ?_
        refine zg_X3_4 hx zRoom_46 zw_90 dX3_takeFrom_51 ?_
        refine z_iload_n hx 0 dX3_takeFrom_54 rfl rfl ?_
        refine z_aload_n hx 2 dX3_takeFrom_55 rfl rfl ?_
        refine z_iload_n hx 0 dX3_takeFrom_56 rfl rfl ?_
        refine z_callV hx (As := [.int (nI t)]) (st := [.int (nI t), .ref (E.2.2.2 (46 + 2))]) (k_X4_readingTold hI (zputI N (46 + 1) t (nI (zcdT tx t))) (zTx_fr (cs := (fun c => 46 ≤ c ∧ c ≤ 48)) ht (zfr_tr hNf (zfr_putI (by omega))) (by omega) (by omega)) (t := t) (by omega) (zf t 1 h36 (by omega) (by omega)) (zf t 2 h36 (by omega) (by omega)) (zf t 3 h36 (by omega) (by omega))) zw_268 zy_X4_readingTold ⟨rfl, rfl⟩ (by decide) (zOB_X4 E) rfl rfl rfl rfl (Nat.le_of_ble_eq_true rfl) dX3_takeFrom_57 ?_
        rintro _ M57 ⟨v57, rfl, q57⟩
        obtain ⟨rfl, q57⟩ := q57
        rw [q57]
        show zJ E x 60 _ [.int (Int32.ofInt (zrdR tx t)), .int (nI t), .ref (E.2.2.2 (46 + 2))] _
        refine z_iast_n hx (zIA_reads zRoom_46 E) (by omega) dX3_takeFrom_60 ?_
        refine z_iinc hx (w := nI (t + 1)) (lv2 := [(2, .int (nI (t + 1))), (0, .ref (E.2.2.2 46)), (1, .ref (E.2.2.2 1))]) 0 dX3_takeFrom_61 rfl (z_inc _) (by decide) rfl ?_
        refine z_goto (tgt := 31) hx dX3_takeFrom_64 (by decide) ?_
        exact z_to (ih31 (t + 1) (zputI (zputI N (46 + 1) t (nI (zcdT tx t))) (46 + 2) t (Int32.ofInt (zrdR tx t))) (by omega) (zfr_tr (zfr_tr hNf (zfr_putI (by omega))) (zfr_putI (by omega))) (zskI (by omega) (zskI (by omega) hN0)) (zskI (by omega) (zskI (by omega) hN1)) (zskI (by omega) (zskI (by omega) hN2)) (fun k hk => by
            have e1 : ¬ (46 + 1 = 46 + 2 ∧ k = t) := by omega
            have e2 : ¬ (46 + 2 = 46 + 1 ∧ k = t) := by omega
            show (zputI (zputI N (46 + 1) t _) (46 + 2) t _).1 (46 + 1) k = _ ∧ (zputI (zputI N (46 + 1) t _) (46 + 2) t _).1 (46 + 2) k = _
            rw [zg_putI, if_neg e1, zg_putI, zg_putI]
            by_cases e : k = t
            · subst e
              rw [if_pos ⟨rfl, rfl⟩, if_pos ⟨rfl, rfl⟩]
              exact ⟨rfl, rfl⟩
            · rw [if_neg (fun z => e z.2), if_neg (fun z => e z.2), zg_putI, if_neg e2]
              exact hNs k (by omega)) (by omega)) [0, 1, 2] rfl rfl
  exact z_to (loop31 _ 0 (zputI (zputI (zputI M 46 0 (nI (zwt tx))) 46 1 (nI (zmmT tx))) 46 2 (nI n)) (by omega) (zfr_tr (zfr_tr (zfr_tr (zfr_rf _ _) (zfr_putI (by omega))) (zfr_putI (by omega))) (zfr_putI (by omega))) (zskK (by omega) (zskK (by omega) zhtI)) (zskK (by omega) zhtI) zhtI (fun k hk => by omega) (Nat.lt_succ_self _)) [0, 1, 2] rfl rfl
/-- one room's cells hold what another's held -/
def zEq (M2 : zM) (a : Nat) (M : zM) (b : Nat) : Prop := (∀ k, k < 3 → M2.1 a k = M.1 b k) ∧ ∀ k, k < 8 → M2.1 (a + 1) k = M.1 (b + 1) k ∧ M2.1 (a + 2) k = M.1 (b + 2) k
theorem zRm_eq {M2 M : zM} {a b w n mm : Nat} {cd : Nat → Nat} {rd : Nat → Int} (h : zEq M2 a M b) (hR : zRm M b w n mm cd rd) : zRm M2 a w n mm cd rd := by
  obtain ⟨q1, q2, q3, q4, q5, q6, q7⟩ := hR
  refine ⟨by rw [h.1 0 (by omega)]; exact q1, q2, by rw [h.1 1 (by omega)]; exact q3, q4, by rw [h.1 2 (by omega)]; exact q5, q6, fun t ht => ?_⟩
  obtain ⟨r1, r2, r3, r4, r5⟩ := q7 t ht
  exact ⟨by rw [(h.2 t (by omega)).1]; exact r1, r2, r3, by rw [(h.2 t (by omega)).2]; exact r4, r5⟩
set_option maxHeartbeats 4000000 in
set_option maxRecDepth 100000 in
theorem k_X0_forgetAll {E : zE} (hI : zI E) (M : zM) : zK E yX0_forgetAll (.code yX0_forgetAll cX0_forgetAll 1 none) (zrm 0 0) [.ref (E.2.2.2 4)] M (zpv (fun M2 => M2 = zputI M 4 2 (nI 0))) := by
  refine zK_of hI (by decide) (Nat.le_of_ble_eq_true rfl) (fun x hx ri rz rl rv => ?_)
  show zJ E x 0 [(0, .ref (E.2.2.2 4))] [] M
  refine z_aload_n hx 0 dX0_forgetAll_0 rfl rfl ?_
  refine z_iconst hx (v := nI 0) dX0_forgetAll_1 (by decide +kernel) ?_
  refine zp_X0_2 hx zw_114 dX0_forgetAll_2 ?_
  exact rv _ _ _ rfl ⟨rfl, rfl⟩ dX0_forgetAll_5
set_option maxHeartbeats 4000000 in
set_option maxRecDepth 100000 in
theorem k_X0_remember {E : zE} (hI : zI E) (M : zM) {o s : Nat} (ho : M.1 4 1 = nI o) (hs : M.1 4 2 = nI s) (ho14 : o < 14) (hs14 : s < 14) : zK E yX0_remember (.code yX0_remember cX0_remember 2 none) (zrm 2 47) [.ref (E.2.2.2 4), .ref (E.2.2.2 46)] M (zpv (fun M2 => M2.1 4 1 = nI o ∧ M2.1 4 2 = nI (s + 1) ∧ zEq M2 (52 + 3 * ((o + s) % 14)) M 46 ∧ zfr (fun c => c = 4 ∨ 52 + 3 * ((o + s) % 14) ≤ c ∧ c ≤ 52 + 3 * ((o + s) % 14) + 2) M M2)) := by
  refine zK_of hI (by decide) (Nat.le_of_ble_eq_true rfl) (fun x hx ri rz rl rv => ?_)
  show zJ E x 0 [(0, .ref (E.2.2.2 4)), (1, .ref (E.2.2.2 46))] [] M
  have hmo := Nat.mod_lt (o + s) (show 0 < 14 by decide)
  refine z_aload_n hx 0 dX0_remember_0 rfl rfl ?_
  refine zg_X0_2 hx zw_114 dX0_remember_1 ?_
  refine z_eqi (b := nI s) hs ?_
  refine z_bipush hx (v := nI 14) dX0_remember_4 (by decide +kernel) ?_
  refine z_icmp_ne_n (tgt := 32) hx (by omega) (by omega) dX0_remember_6 (by decide) (fun h6 => ?_) (fun h6 => ?_)
  · skip
    refine z_aload_n hx 0 dX0_remember_32 rfl rfl ?_
    refine zg_X0_0 hx zw_112 dX0_remember_33 ?_
    refine z_aload_n hx 0 dX0_remember_36 rfl rfl ?_
    refine zg_X0_1 hx zw_113 dX0_remember_37 ?_
    refine z_eqi (b := nI o) ho ?_
    refine z_aload_n hx 0 dX0_remember_40 rfl rfl ?_
    refine zg_X0_2 hx zw_114 dX0_remember_41 ?_
    refine z_eqi (b := nI s) hs ?_
    refine z_iadd_n hx dX0_remember_44 ?_
    refine z_bipush hx (v := nI 14) dX0_remember_45 (by decide +kernel) ?_
    refine z_irem_n hx (by omega) (by omega) (by omega) dX0_remember_47 ?_
    refine z_aald_n hx (zRA_5 E) (by omega) dX0_remember_48 ?_
    refine z_aload_n hx 1 dX0_remember_49 rfl rfl ?_
    refine z_callV hx (As := [.ref (E.2.2.2 46)]) (st := []) (k_X3_copy hI M (a := 52 + 3 * ((o + s) % 14)) (b := 46) (zRoom_b (by omega)) zRoom_46 (by omega)) zw_302 zy_X3_copy ⟨rfl, rfl⟩ (by decide) (zOB_room (zRoom_b (by omega)) E) rfl rfl rfl rfl (Nat.le_of_ble_eq_true rfl) dX0_remember_50 ?_
    rintro _ M50 ⟨rfl, q50⟩
    show zJ E x 53 _ [] _
    refine z_aload_n hx 0 dX0_remember_53 rfl rfl ?_
    refine z_dup hx dX0_remember_54 rfl ?_
    refine zg_X0_2 hx zw_114 dX0_remember_55 ?_
    refine z_eqi (b := nI s) (by rw [(q50.2.2 4 (by omega)).1]; exact hs) ?_
    refine z_iconst hx (v := nI 1) dX0_remember_58 (by decide +kernel) ?_
    refine z_iadd_n hx dX0_remember_59 ?_
    refine zp_X0_2 hx zw_114 dX0_remember_60 ?_
    exact rv _ _ _ rfl ⟨rfl, ⟨zskK (by omega) (by rw [(q50.2.2 4 (by omega)).1]; exact ho), zhtI, ⟨fun k hk => zskI (by omega) (q50.1 k hk), fun k hk => ⟨zskI (by omega) (q50.2.1 k hk).1, zskI (by omega) (q50.2.1 k hk).2⟩⟩, zfr_tr (zfr_w q50.2.2 (fun c h => Or.inr h)) (zfr_putI (Or.inl rfl))⟩⟩ dX0_remember_63
  · skip
    omega
set_option maxHeartbeats 4000000 in
set_option maxRecDepth 100000 in
theorem k_X0_remember14 {E : zE} (hI : zI E) (M : zM) {o : Nat} (ho : M.1 4 1 = nI o) (hs : M.1 4 2 = nI 14) (ho14 : o < 14) : zK E yX0_remember (.code yX0_remember cX0_remember 2 none) (zrm 2 47) [.ref (E.2.2.2 4), .ref (E.2.2.2 46)] M (zpv (fun M2 => M2.1 4 1 = nI ((o + 1) % 14) ∧ M2.1 4 2 = nI 14 ∧ zEq M2 (52 + 3 * (((o + 1) % 14 + 13) % 14)) M 46 ∧ zfr (fun c => c = 4 ∨ 52 + 3 * (((o + 1) % 14 + 13) % 14) ≤ c ∧ c ≤ 52 + 3 * (((o + 1) % 14 + 13) % 14) + 2) M M2)) := by
  refine zK_of hI (by decide) (Nat.le_of_ble_eq_true rfl) (fun x hx ri rz rl rv => ?_)
  show zJ E x 0 [(0, .ref (E.2.2.2 4)), (1, .ref (E.2.2.2 46))] [] M
  have hmo := Nat.mod_lt (o + 1) (show 0 < 14 by decide)
  have hmo2 := Nat.mod_lt ((o + 1) % 14 + 13) (show 0 < 14 by decide)
  refine z_aload_n hx 0 dX0_remember_0 rfl rfl ?_
  refine zg_X0_2 hx zw_114 dX0_remember_1 ?_
  refine z_eqi (b := nI 14) hs ?_
  refine z_bipush hx (v := nI 14) dX0_remember_4 (by decide +kernel) ?_
  refine z_icmp_ne_n (tgt := 32) hx (by omega) (by omega) dX0_remember_6 (by decide) (fun h6 => ?_) (fun h6 => ?_)
  · skip
    omega
  · skip
    refine z_aload_n hx 0 dX0_remember_9 rfl rfl ?_
    refine z_aload_n hx 0 dX0_remember_10 rfl rfl ?_
    refine zg_X0_1 hx zw_113 dX0_remember_11 ?_
    refine z_eqi (b := nI o) ho ?_
    refine z_iconst hx (v := nI 1) dX0_remember_14 (by decide +kernel) ?_
    refine z_iadd_n hx dX0_remember_15 ?_
    refine z_bipush hx (v := nI 14) dX0_remember_16 (by decide +kernel) ?_
    refine z_irem_n hx (by omega) (by omega) (by omega) dX0_remember_18 ?_
    refine zp_X0_1 hx zw_113 dX0_remember_19 ?_
    refine z_aload_n hx 0 dX0_remember_22 rfl rfl ?_
    refine z_dup hx dX0_remember_23 rfl ?_
    refine zg_X0_2 hx zw_114 dX0_remember_24 ?_
    refine z_eqi (b := nI 14) (zskK (by omega) hs) ?_
    refine z_iconst hx (v := nI 1) dX0_remember_27 (by decide +kernel) ?_
    refine z_isub_n hx (by omega) dX0_remember_28 ?_
    refine zp_X0_2 hx zw_114 dX0_remember_29 ?_
    refine z_aload_n hx 0 dX0_remember_32 rfl rfl ?_
    refine zg_X0_0 hx zw_112 dX0_remember_33 ?_
    refine z_aload_n hx 0 dX0_remember_36 rfl rfl ?_
    refine zg_X0_1 hx zw_113 dX0_remember_37 ?_
    refine z_eqi (b := nI ((o + 1) % 14)) (zskK (by omega) zhtI) ?_
    refine z_aload_n hx 0 dX0_remember_40 rfl rfl ?_
    refine zg_X0_2 hx zw_114 dX0_remember_41 ?_
    refine z_eqi (b := nI 13) zhtI ?_
    refine z_iadd_n hx dX0_remember_44 ?_
    refine z_bipush hx (v := nI 14) dX0_remember_45 (by decide +kernel) ?_
    refine z_irem_n hx (by omega) (by omega) (by omega) dX0_remember_47 ?_
    refine z_aald_n hx (zRA_5 E) (by omega) dX0_remember_48 ?_
    refine z_aload_n hx 1 dX0_remember_49 rfl rfl ?_
    refine z_callV hx (As := [.ref (E.2.2.2 46)]) (st := []) (k_X3_copy hI (zputI (zputI M 4 1 (nI ((o + 1) % 14))) 4 2 (nI 13)) (a := 52 + 3 * ((((o + 1) % 14) + 13) % 14)) (b := 46) (zRoom_b (by omega)) zRoom_46 (by omega)) zw_302 zy_X3_copy ⟨rfl, rfl⟩ (by decide) (zOB_room (zRoom_b (by omega)) E) rfl rfl rfl rfl (Nat.le_of_ble_eq_true rfl) dX0_remember_50 ?_
    rintro _ M50 ⟨rfl, q50⟩
    show zJ E x 53 _ [] _
    refine z_aload_n hx 0 dX0_remember_53 rfl rfl ?_
    refine z_dup hx dX0_remember_54 rfl ?_
    refine zg_X0_2 hx zw_114 dX0_remember_55 ?_
    refine z_eqi (b := nI 13) (by rw [(q50.2.2 4 (by omega)).1]; exact zhtI) ?_
    refine z_iconst hx (v := nI 1) dX0_remember_58 (by decide +kernel) ?_
    refine z_iadd_n hx dX0_remember_59 ?_
    refine zp_X0_2 hx zw_114 dX0_remember_60 ?_
    exact rv _ _ _ rfl ⟨rfl, ⟨zskK (by omega) (by rw [(q50.2.2 4 (by omega)).1]; exact zskK (by omega) zhtI), zhtI, ⟨fun k hk => zskI (by omega) ((q50.1 k hk).trans (zskI (by omega) (zskI (by omega) rfl))), fun k hk => ⟨zskI (by omega) (((q50.2.1 k hk).1).trans (zskI (by omega) (zskI (by omega) rfl))), zskI (by omega) (((q50.2.1 k hk).2).trans (zskI (by omega) (zskI (by omega) rfl)))⟩⟩, zfr_tr (zfr_tr (zfr_tr (zfr_putI (Or.inl rfl)) (zfr_putI (Or.inl rfl))) (zfr_w q50.2.2 (fun c h => Or.inr h))) (zfr_putI (Or.inl rfl))⟩⟩ dX0_remember_63
set_option maxHeartbeats 4000000 in
set_option maxRecDepth 100000 in
theorem k_X0_takeBack {E : zE} (hI : zI E) (M : zM) {o s : Nat} (ho : M.1 4 1 = nI o) (hs : M.1 4 2 = nI (s + 1)) (ho14 : o < 14) (hs14 : s < 14) : zK E yX0_takeBack (.code yX0_takeBack cX0_takeBack 2 none) (zrm 2 47) [.ref (E.2.2.2 4), .ref (E.2.2.2 46)] M (zpv (fun M2 => M2.1 4 1 = nI o ∧ M2.1 4 2 = nI s ∧ zEq M2 46 M (52 + 3 * ((o + s) % 14)) ∧ zfr (fun c => c = 4 ∨ 46 ≤ c ∧ c ≤ 48) M M2)) := by
  refine zK_of hI (by decide) (Nat.le_of_ble_eq_true rfl) (fun x hx ri rz rl rv => ?_)
  show zJ E x 0 [(0, .ref (E.2.2.2 4)), (1, .ref (E.2.2.2 46))] [] M
  have hmo := Nat.mod_lt (o + s) (show 0 < 14 by decide)
  refine z_aload_n hx 0 dX0_takeBack_0 rfl rfl ?_
  refine zg_X0_2 hx zw_114 dX0_takeBack_1 ?_
  refine z_eqi (b := nI (s + 1)) hs ?_
  refine z_if_le (tgt := 38) hx dX0_takeBack_4 (by decide) (fun h4 => ?_) (fun h4 => ?_)
  · skip
    exact absurd h4 (nI_nle (by omega) (by omega))
  · skip
    refine z_aload_n hx 0 dX0_takeBack_7 rfl rfl ?_
    refine z_dup hx dX0_takeBack_8 rfl ?_
    refine zg_X0_2 hx zw_114 dX0_takeBack_9 ?_
    refine z_eqi (b := nI (s + 1)) hs ?_
    refine z_iconst hx (v := nI 1) dX0_takeBack_12 (by decide +kernel) ?_
    refine z_isub_n hx (by omega) dX0_takeBack_13 ?_
    refine zp_X0_2 hx zw_114 dX0_takeBack_14 ?_
    refine z_aload_n hx 1 dX0_takeBack_17 rfl rfl ?_
    refine z_aload_n hx 0 dX0_takeBack_18 rfl rfl ?_
    refine zg_X0_0 hx zw_112 dX0_takeBack_19 ?_
    refine z_aload_n hx 0 dX0_takeBack_22 rfl rfl ?_
    refine zg_X0_1 hx zw_113 dX0_takeBack_23 ?_
    refine z_eqi (b := nI o) (zskK (by omega) ho) ?_
    refine z_aload_n hx 0 dX0_takeBack_26 rfl rfl ?_
    refine zg_X0_2 hx zw_114 dX0_takeBack_27 ?_
    refine z_eqi (b := nI s) zhtI ?_
    refine z_iadd_n hx dX0_takeBack_30 ?_
    refine z_bipush hx (v := nI 14) dX0_takeBack_31 (by decide +kernel) ?_
    refine z_irem_n hx (by omega) (by omega) (by omega) dX0_takeBack_33 ?_
    refine z_aald_n hx (zRA_5 E) (by omega) dX0_takeBack_34 ?_
    refine z_callV hx (As := [.ref (E.2.2.2 (52 + 3 * ((o + s) % 14)))]) (st := []) (k_X3_copy hI (zputI M 4 2 (nI s)) (a := 46) (b := 52 + 3 * ((o + s) % 14)) zRoom_46 (zRoom_b (by omega)) (by omega)) zw_302 zy_X3_copy ⟨rfl, rfl⟩ (by decide) (zOB_room zRoom_46 E) rfl rfl rfl rfl (Nat.le_of_ble_eq_true rfl) dX0_takeBack_35 ?_
    rintro _ M35 ⟨rfl, q35⟩
    show zJ E x 38 _ [] _
    exact rv _ _ _ rfl ⟨rfl, ⟨by rw [(q35.2.2 4 (by omega)).1]; exact zskK (by omega) ho, by rw [(q35.2.2 4 (by omega)).1]; exact zhtI, ⟨fun k hk => (q35.1 k hk).trans (zskI (by omega) rfl), fun k hk => ⟨((q35.2.1 k hk).1).trans (zskI (by omega) rfl), ((q35.2.1 k hk).2).trans (zskI (by omega) rfl)⟩⟩, zfr_tr (zfr_putI (Or.inl rfl)) (zfr_w q35.2.2 (fun c h => Or.inr h))⟩⟩ dX0_takeBack_38
