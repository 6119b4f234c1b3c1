theorem zTok_ft {tx : Nat → Nat} {len n : Nat} (h : zTok tx len n) : zFt tx len (-9) := Or.inr ⟨h.2.2, Or.inl ⟨by have := h.1; omega, by rw [h.1, show 4 + n * (zwt tx + 6) - 4 = 0 + n * (zwt tx + 6) by omega, Nat.add_mul_mod_self_right, Nat.zero_mod], rfl⟩⟩
theorem zTok_uq {tx : Nat → Nat} {len n m : Nat} (h : zTok tx len n) (h2 : zTok tx len m) : n = m := (Eq.symm (zTok_n h)).trans (zTok_n h2)
theorem zFt_uq {tx : Nat → Nat} {len : Nat} {v u : Int32} (h : zFt tx len v) (h2 : zFt tx len u) : v = u := by
  rcases h with ⟨k, a1, a2, a3, a4⟩ | ⟨a1, a2⟩
  · rcases h2 with ⟨j, b1, b2, b3, b4⟩ | ⟨b1, b2⟩
    · have e : k = j := by
        rcases Nat.lt_trichotomy k j with z | z | z
        · exact absurd (b2 k z) a3
        · exact z
        · exact absurd (a2 j z) b3
      rw [a4, b4, e]
    · exact absurd (b1 k a1) a3
  · rcases h2 with ⟨j, b1, b2, b3, b4⟩ | ⟨b1, b2⟩
    · exact absurd (a1 j b1) b3
    · rcases a2 with ⟨c1, c2, c3⟩ | ⟨c1, c2⟩
      · rcases b2 with ⟨d1, d2, d3⟩ | ⟨d1, d2⟩
        · rw [c3, d3]
        · exact absurd ⟨c1, c2⟩ d1
      · rcases b2 with ⟨d1, d2, d3⟩ | ⟨d1, d2⟩
        · exact absurd ⟨d1, d2⟩ c1
        · rw [c2, d2]
theorem zStk_no {tx : Nat → Nat} {len p : Nat} (hl : len ≤ 90) (h : zStk tx len p) : ¬ ∃ n, zTok tx len n := fun z => by
  have e := (zFt_m9 hl (zStk_ft h)).mpr z
  have := h.1
  exact zn9 (by omega) e
theorem zMs_tm {M : zM} {σ : zSt} (h : zMs M σ) (hk : zSk σ) : zTm M σ.1 σ.2.1 := ⟨h.1.1, h.1.2, hk.2.1.1, hk.2.1.2⟩
set_option maxHeartbeats 4000000 in
set_option maxRecDepth 100000 in
theorem k_X6_fault {E : zE} (hI : zI E) (M : zM) {σ : zSt} (hσ : zMs M σ) (hk : zSk σ)  : zK E yX6_fault (.code yX6_fault cX6_fault 1 (some .int)) (zrm 4 94) [.ref (E.2.2.2 32)] M (zpi (fun v M2 => zFt σ.1 σ.2.1 v ∧ zMs M2 σ ∧ zfN M M2)) := by
  refine zK_of hI (by decide) (Nat.le_of_ble_eq_true rfl) (fun x hx ri rz rl rv => ?_)
  show zJ E x 0 [(0, .ref (E.2.2.2 32))] [] M
  obtain ⟨tx, len, ⟨w, n, mm, cd, rd⟩, as, s, sl, sd⟩ := σ
  have hσ2 := hσ
  obtain ⟨⟨hL, hT⟩, hW, hP, ⟨hs, hA⟩, hS, hsd⟩ := hσ
  have hv := hk.1
  have hw4 : 1 ≤ w ∧ w ≤ 4 := hv.1
  have hmm : mm ≤ 99 := hv.2.1
  have hn8 : n ≤ 8 := hv.2.2.1
  have hlen : len ≤ 90 := hk.2.1.1
  have hs14 : s ≤ 14 := hk.2.2.1
  have hL : M.1 32 2 = nI len := hL
  have hW : M.1 32 4 = nI w := hW
  have hs : M.1 32 11 = nI s := hs
  have hsd : M.2 32 14 = sd := hsd
  have hP0 : M.1 35 0 = nI mm := hP.1
  have hP1 : M.1 35 1 = nI n := hP.2.1
  have hP2 : ∀ t, t < n → M.1 35 (2 + t) = nI (cd t) ∧ M.1 35 (10 + t) = Int32.ofInt (rd t) := hP.2.2
  have hT : ∀ k, k < 90 → M.1 33 k = nI (tx k) := hT
  refine z_aload_n hx 0 dX6_fault_0 rfl rfl ?_
  refine z_iconst hx (v := nI 0) dX6_fault_1 (by decide +kernel) ?_
  refine zp_X6_0 hx zw_576 dX6_fault_2 ?_
  refine z_aload_n hx 0 dX6_fault_5 rfl rfl ?_
  refine z_callV hx (As := []) (st := []) (k_X6_readRoom hI (zputI M 32 0 (nI 0)) (zMs_tm (zMs_t hσ2) hk)) zw_665 zy_X6_readRoom ⟨rfl, rfl⟩ (by decide) (zOB_X6 E) rfl rfl rfl rfl (Nat.le_of_ble_eq_true rfl) dX6_fault_6 ?_
  rintro _ M6 ⟨v6, rfl, q6⟩
  rcases q6 with ⟨n1, hok, rfl, q5, qP, q6⟩ | ⟨p1, rfl, qs, q6⟩
  · skip
    show zJ E x 9 _ [.int (-9)] _
    exact ri _ _ _ _ rfl ⟨_, rfl, ⟨zTok_ft hok, zMs_fr (zMs_t hσ2) q6 (by omega) (by omega) (by omega) (by omega) (by omega) (by omega) (by omega) (by omega) (by omega), zfr_tr zfN_t (zfr_w q6.1 (fun c z => by omega))⟩⟩ dX6_fault_9
  · skip
    show zJ E x 9 _ [.int (nI p1)] _
    have hp1 := qs.1
    have hlen1 : p1 ≤ len := hp1
    exact ri _ _ _ _ rfl ⟨_, rfl, ⟨zStk_ft qs, zMs_fr (zMs_t hσ2) q6 (by omega) (by omega) (by omega) (by omega) (by omega) (by omega) (by omega) (by omega) (by omega), zfr_tr zfN_t (zfr_w q6.1 (fun c z => by omega))⟩⟩ dX6_fault_9
set_option maxHeartbeats 4000000 in
set_option maxRecDepth 100000 in
theorem k_X6_room {E : zE} (hI : zI E) (M : zM) {σ : zSt} (hσ : zMs M σ) (hk : zSk σ)  : zK E yX6_room (.code yX6_room cX6_room 1 (some .int)) (zrm 4 94) [.ref (E.2.2.2 32)] M (zpi (fun v M2 => (∃ n, zTok σ.1 σ.2.1 n ∧ v = nI n ∧ zMs M2 (σ.1, σ.2.1, (zwt σ.1, n, zmmT σ.1, zcdT σ.1, zrdR σ.1), σ.2.2.2.1, 0, (fun _ => none), σ.2.2.2.2.2.2) ∧ zfN M M2) ∨ ((¬ ∃ n, zTok σ.1 σ.2.1 n) ∧ v = -3 ∧ zMs M2 σ ∧ zfN M M2))) := by
  refine zK_of hI (by decide) (Nat.le_of_ble_eq_true rfl) (fun x hx ri rz rl rv => ?_)
  show zJ E x 0 [(0, .ref (E.2.2.2 32))] [] M
  obtain ⟨tx, len, ⟨w, n, mm, cd, rd⟩, as, s, sl, sd⟩ := σ
  have hσ2 := hσ
  obtain ⟨⟨hL, hT⟩, hW, hP, ⟨hs, hA⟩, hS, hsd⟩ := hσ
  have hv := hk.1
  have hw4 : 1 ≤ w ∧ w ≤ 4 := hv.1
  have hmm : mm ≤ 99 := hv.2.1
  have hn8 : n ≤ 8 := hv.2.2.1
  have hlen : len ≤ 90 := hk.2.1.1
  have hs14 : s ≤ 14 := hk.2.2.1
  have hL : M.1 32 2 = nI len := hL
  have hW : M.1 32 4 = nI w := hW
  have hs : M.1 32 11 = nI s := hs
  have hsd : M.2 32 14 = sd := hsd
  have hP0 : M.1 35 0 = nI mm := hP.1
  have hP1 : M.1 35 1 = nI n := hP.2.1
  have hP2 : ∀ t, t < n → M.1 35 (2 + t) = nI (cd t) ∧ M.1 35 (10 + t) = Int32.ofInt (rd t) := hP.2.2
  have hT : ∀ k, k < 90 → M.1 33 k = nI (tx k) := hT
  refine z_aload_n hx 0 dX6_room_0 rfl rfl ?_
  refine z_iconst hx (v := nI 0) dX6_room_1 (by decide +kernel) ?_
  refine zp_X6_0 hx zw_576 dX6_room_2 ?_
  refine z_aload_n hx 0 dX6_room_5 rfl rfl ?_
  refine z_callV hx (As := []) (st := []) (k_X6_readRoom hI (zputI M 32 0 (nI 0)) (zMs_tm (zMs_t hσ2) hk)) zw_665 zy_X6_readRoom ⟨rfl, rfl⟩ (by decide) (zOB_X6 E) rfl rfl rfl rfl (Nat.le_of_ble_eq_true rfl) dX6_room_6 ?_
  rintro _ M6 ⟨v6, rfl, q6⟩
  rcases q6 with ⟨n1, hok, rfl, q5, qP, q6⟩ | ⟨p1, rfl, qs, q6⟩
  · skip
    show zJ E x 9 _ [.int (-9)] _
    refine z_bipush hx (v := (-9)) dX6_room_9 rfl ?_
    refine z_icmp_eq (tgt := 17) hx dX6_room_11 (by decide) (fun _ => ?_) (fun h => absurd rfl h)
    refine z_aload_n hx 0 dX6_room_17 rfl rfl ?_
    refine z_aload_n hx 0 dX6_room_18 rfl rfl ?_
    refine zg_X6_5 hx zw_581 dX6_room_19 ?_
    refine z_eqi (b := nI (zwt tx)) q5 ?_
    refine zp_X6_4 hx zw_580 dX6_room_22 ?_
    refine z_aload_n hx 0 dX6_room_25 rfl rfl ?_
    refine zg_X6_6 hx zw_582 dX6_room_26 ?_
    refine z_aload_n hx 0 dX6_room_29 rfl rfl ?_
    refine zg_X6_7 hx zw_583 dX6_room_30 ?_
    refine z_callS hx (As := [.ref (E.2.2.2 34), .ref (E.2.2.2 35)]) (st := []) (k_X6_copy hI (zputI M6 32 4 (nI (zwt tx))) (p := 34) (q := 35) zPc_34 zPc_35 (by omega)) zw_689 zy_X6_copy ⟨rfl, rfl⟩ (by decide) rfl rfl (Nat.le_of_ble_eq_true rfl) dX6_room_33 ?_
    rintro _ M33 ⟨rfl, q33⟩
    show zJ E x 36 _ [] _
    refine z_aload_n hx 0 dX6_room_36 rfl rfl ?_
    refine z_iconst hx (v := nI 0) dX6_room_37 (by decide +kernel) ?_
    refine zp_X6_11 hx zw_587 dX6_room_38 ?_
    refine z_aload_n hx 0 dX6_room_41 rfl rfl ?_
    refine zg_X6_13 hx zw_589 dX6_room_42 ?_
    refine z_iconst hx (v := nI 0) dX6_room_45 (by decide +kernel) ?_
    refine z_iconst hx (v := nI 0) dX6_room_46 (by decide +kernel) ?_
    refine z_zast_n hx (zZA_40 E) (by omega) (Or.inl rfl) dX6_room_47 ?_
    refine z_aload_n hx 0 dX6_room_48 rfl rfl ?_
    refine zg_X6_13 hx zw_589 dX6_room_49 ?_
    refine z_iconst hx (v := nI 1) dX6_room_52 (by decide +kernel) ?_
    refine z_iconst hx (v := nI 0) dX6_room_53 (by decide +kernel) ?_
    refine z_zast_n hx (zZA_40 E) (by omega) (Or.inl rfl) dX6_room_54 ?_
    refine z_aload_n hx 0 dX6_room_55 rfl rfl ?_
    refine zg_X6_7 hx zw_583 dX6_room_56 ?_
    refine z_iconst hx (v := nI 1) dX6_room_59 (by decide +kernel) ?_
    refine z_iald_n hx (zIA_35 E) (by omega) dX6_room_60 ?_
    refine z_eqi (b := nI n1) (zskI (by omega) (zskI (by omega) (zskI (by omega) ((q33.1 1 (by omega)).trans (zskI (by omega) qP.2.1))))) ?_
    exact ri _ _ _ _ rfl ⟨_, rfl, Or.inl ⟨n1, hok, rfl, by
        have hf1 : zfm (fun c => c = 34) (fun k => k = 3 ∨ k = 5 ∨ k = 0) M M6 := zfm_tr (zfm_fI (Or.inr (Or.inr rfl))) (zfm_w q6 (fun _ z => z) (fun k z => by omega))
        have e32 := q33.2 32 (by omega)
        refine ⟨⟨⟨?_, fun k hk => ?_⟩, ?_, ?_, ⟨?_, fun i hi => absurd hi (Nat.not_lt_zero _)⟩, fun k hk => Or.inl ⟨rfl, ?_⟩, ?_⟩, ?_⟩
        · exact zskI (by omega) (zskI (by omega) (zskK (by omega) (by rw [e32.1]; exact zskK (by omega) ((hf1.2 2 (by omega)).1.trans hL))))
        · exact zskI (by omega) (zskI (by omega) (zskI (by omega) (by rw [(q33.2 33 (by omega)).1]; exact zskI (by omega) (by rw [(zfm_c hf1 (by omega) (by omega)).1]; exact hT k hk))))
        · exact zskI (by omega) (zskI (by omega) (zskK (by omega) (by rw [e32.1]; exact zhtI)))
        · exact zPf_cg qP hok.2.1 (fun k hk => zskI (by omega) (zskI (by omega) (zskI (by omega) ((q33.1 k hk).trans (zskI (by omega) rfl)))))
        · exact zskI (by omega) (zskI (by omega) zhtI)
        · rcases (show k = 0 ∨ k = 1 by omega) with rfl | rfl
          · exact zskK (by omega) zhtI
          · exact zhtI
        · show M33.2 32 14 = sd
          rw [e32.2]
          exact (hf1.2 14 (by omega)).2.trans hsd
        · exact zfr_tr zfN_t (zfr_tr (zfr_w q6.1 (fun c z => by omega)) (zfr_tr (zfr_putI (by omega)) (zfr_tr (zfr_w q33.2 (fun c z => by omega)) (zfr_tr (zfr_tr (zfr_putI (by omega)) (zfr_putI (by omega))) (zfr_putI (by omega))))))⟩⟩ dX6_room_61
  · skip
    show zJ E x 9 _ [.int (nI p1)] _
    have hp1 := qs.1
    have hlen1 : p1 ≤ len := hp1
    refine z_bipush hx (v := (-9)) dX6_room_9 rfl ?_
    refine z_icmp_eq (tgt := 17) hx dX6_room_11 (by decide) (fun h => absurd h (zn9 (by omega))) (fun _ => ?_)
    refine z_bipush hx (v := (-3)) dX6_room_14 rfl ?_
    exact ri _ _ _ _ rfl ⟨_, rfl, Or.inr ⟨zStk_no hlen qs, rfl, zMs_fr (zMs_t hσ2) q6 (by omega) (by omega) (by omega) (by omega) (by omega) (by omega) (by omega) (by omega) (by omega), zfr_tr zfN_t (zfr_w q6.1 (fun c z => by omega))⟩⟩ dX6_room_16
