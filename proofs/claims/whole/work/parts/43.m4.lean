theorem zn9 {k : Nat} (h : k < 2 ^ 31) : ¬ nI k = -9 := fun e => by
  have e2 := congrArg Int32.toInt e
  have e3 : (-9 : Int32).toInt = -9 := by decide +kernel
  rw [nI_toInt h, e3] at e2
  omega
def zTm (M : zM) (tx : Nat → Nat) (len : Nat) : Prop := M.1 32 2 = nI len ∧ (∀ k, k < 90 → M.1 33 k = nI (tx k)) ∧ len ≤ 90 ∧ ∀ k, k < 90 → tx k ≤ 255
theorem zTm_3 {M : zM} {tx : Nat → Nat} {len : Nat} {v : Int32} (h : zTm M tx len) : zTm (zputI M 32 3 v) tx len := ⟨zskK (by omega) h.1, fun k hk => zskI (by omega) (h.2.1 k hk), h.2.2⟩
theorem zTm_5 {M : zM} {tx : Nat → Nat} {len : Nat} {v : Int32} (h : zTm M tx len) : zTm (zputI M 32 5 v) tx len := ⟨zskK (by omega) h.1, fun k hk => zskI (by omega) (h.2.1 k hk), h.2.2⟩
theorem zTm_fr {cs ks : Nat → Prop} {M N : zM} {tx : Nat → Nat} {len : Nat} (h : zTm M tx len) (hf : zfm cs ks M N) (h1 : ¬ cs 33) (h2 : ¬ ks 2) : zTm N tx len := ⟨(hf.2 2 h2).1.trans h.1, fun k hk => by rw [(zfm_c hf (by omega) h1).1]; exact h.2.1 k hk, h.2.2⟩
theorem zputI_2 (M : zM) (c k : Nat) (v u : Int32) : zputI (zputI M c k v) c k u = zputI M c k u := by
  unfold zputI
  refine Prod.ext ?_ rfl
  funext i
  by_cases h : i = c
  · subst h
    simp only [va_up, if_true]
    funext j
    by_cases h2 : j = k <;> simp [upd, h2]
  · simp [va_up, h]
theorem zfg_s : ∀ l, l < 256 → (nI l - nI 48).toInt = (l : Int) - 48 := by decide +kernel
theorem zin_f {l lo hi : Nat} (hl : l < 256) (h1 : lo < 2 ^ 31) (h2 : hi < 2 ^ 31) : ((nI lo).toInt64 ≤ (nI l - nI 48).toInt64 ∧ (nI l - nI 48).toInt64 ≤ (nI hi).toInt64) ↔ (48 + lo ≤ l ∧ l ≤ 48 + hi) := by
  rw [Int64.le_iff_toInt_le, Int64.le_iff_toInt_le, Int32.toInt_toInt64, Int32.toInt_toInt64, Int32.toInt_toInt64, zfg_s l hl, nI_toInt h1, nI_toInt h2]
  omega
theorem zin_9 {lo : Nat} {q : Int64} (h1 : lo < 2 ^ 31) : ¬ ((nI lo).toInt64 ≤ (-9 : Int32).toInt64 ∧ (-9 : Int32).toInt64 ≤ q) := by
  have e3 : (-9 : Int32).toInt = -9 := by decide +kernel
  rw [Int64.le_iff_toInt_le, Int32.toInt_toInt64, Int32.toInt_toInt64, nI_toInt h1, e3]
  omega
theorem zfg_v : ∀ l, l < 256 → 48 ≤ l → nI l - nI 48 = nI (l - 48) := by decide +kernel
set_option maxHeartbeats 4000000 in
set_option maxRecDepth 100000 in
theorem k_X6_figure {E : zE} (hI : zI E) (M : zM) {tx : Nat → Nat} {len : Nat} (ht : zTm M tx len) {p : Nat} (hp : M.1 32 3 = nI p) (hpl : p ≤ len) (lo hi : Nat) (hlo : lo ≤ 9) (hhi : hi ≤ 9) : zK E yX6_figure (.code yX6_figure cX6_figure 4 (some .int)) (zrm 1 25) [.ref (E.2.2.2 32), .int (nI lo), .int (nI hi)] M (zpi (fun v M2 => (p < len ∧ 48 + lo ≤ tx p ∧ tx p ≤ 48 + hi ∧ v = nI (tx p - 48) ∧ M2 = zputI M 32 3 (nI (p + 1))) ∨ (¬ (p < len ∧ 48 + lo ≤ tx p ∧ tx p ≤ 48 + hi) ∧ v = -9 ∧ M2 = M))) := by
  refine zK_of hI (by decide) (Nat.le_of_ble_eq_true rfl) (fun x hx ri rz rl rv => ?_)
  show zJ E x 0 [(0, .ref (E.2.2.2 32)), (1, .int (nI lo)), (2, .int (nI hi))] [] M
  have hL : M.1 32 2 = nI len := ht.1
  have hT := ht.2.1
  have hlen : len ≤ 90 := ht.2.2.1
  have h255 := ht.2.2.2
  refine z_aload_n hx 0 dX6_figure_0 rfl rfl ?_
  refine zg_X6_3 hx zw_579 dX6_figure_1 ?_
  refine z_eqi (b := nI p) hp ?_
  refine z_aload_n hx 0 dX6_figure_4 rfl rfl ?_
  refine zg_X6_2 hx zw_578 dX6_figure_5 ?_
  refine z_eqi (b := nI len) hL ?_
  refine z_icmp_ge_n (tgt := 26) hx (by omega) (by omega) dX6_figure_8 (by decide) (fun h8 => ?_) (fun h8 => ?_)
  · skip
    refine z_bipush hx (v := (-9)) dX6_figure_26 rfl ?_
    refine z_istore_n hx (lv2 := [(3, .int (-9)), (0, .ref (E.2.2.2 32)), (1, .int (nI lo)), (2, .int (nI hi))]) dX6_figure_28 rfl (by decide) rfl ?_
    refine z_iload_n hx 0 dX6_figure_29 rfl rfl ?_
    refine z_i2l hx dX6_figure_30 ?_
    refine z_iload_n hx 2 dX6_figure_31 rfl rfl ?_
    refine z_i2l hx dX6_figure_32 ?_
    refine z_iload_n hx 3 dX6_figure_33 rfl rfl ?_
    refine z_i2l hx dX6_figure_34 ?_
    refine z_callS hx (As := [.long ((-9).toInt64), .long ((nI lo).toInt64), .long ((nI hi).toInt64)]) (st := []) (k_X6_in hI M ((-9).toInt64) ((nI lo).toInt64) ((nI hi).toInt64)) zw_654 zy_X6_in ⟨rfl, rfl⟩ (by decide) rfl rfl (Nat.le_of_ble_eq_true rfl) dX6_figure_35 ?_
    rintro _ M35 ⟨v35, rfl, q35⟩
    obtain ⟨q35, hmm⟩ := q35
    rw [hmm]
    rcases q35 with ⟨q35, rfl⟩ | ⟨q35, rfl⟩
    · skip
      show zJ E x 38 _ [.int (nI 1)] _
      exact absurd q35 (zin_9 (by omega))
    · skip
      show zJ E x 38 _ [.int (nI 0)] _
      refine z_if_ne_n (tgt := 44) hx (by decide) dX6_figure_38 (by decide) (fun h => absurd h (by decide)) (fun _ => ?_)
      refine z_bipush hx (v := (-9)) dX6_figure_41 rfl ?_
      exact ri _ _ _ _ rfl ⟨_, rfl, Or.inr ⟨by omega, rfl, rfl⟩⟩ dX6_figure_43
  · skip
    refine z_aload_n hx 0 dX6_figure_11 rfl rfl ?_
    refine zg_X6_1 hx zw_577 dX6_figure_12 ?_
    refine z_aload_n hx 0 dX6_figure_15 rfl rfl ?_
    refine zg_X6_3 hx zw_579 dX6_figure_16 ?_
    refine z_eqi (b := nI p) hp ?_
    refine z_iald_n hx (zIA_33 E) (by omega) dX6_figure_19 ?_
    refine z_eqi (b := nI (tx p)) (hT p (by omega)) ?_
    refine z_bipush hx (v := nI 48) dX6_figure_20 (by decide +kernel) ?_
    refine z_isub hx dX6_figure_22 ?_
    refine z_goto (tgt := 28) hx dX6_figure_23 (by decide) ?_
    refine z_istore_n hx (lv2 := [(3, .int ((nI (tx p)) - (nI 48))), (0, .ref (E.2.2.2 32)), (1, .int (nI lo)), (2, .int (nI hi))]) dX6_figure_28 rfl (by decide) rfl ?_
    refine z_iload_n hx 0 dX6_figure_29 rfl rfl ?_
    refine z_i2l hx dX6_figure_30 ?_
    refine z_iload_n hx 2 dX6_figure_31 rfl rfl ?_
    refine z_i2l hx dX6_figure_32 ?_
    refine z_iload_n hx 3 dX6_figure_33 rfl rfl ?_
    refine z_i2l hx dX6_figure_34 ?_
    refine z_callS hx (As := [.long (((nI (tx p)) - (nI 48)).toInt64), .long ((nI lo).toInt64), .long ((nI hi).toInt64)]) (st := []) (k_X6_in hI M (((nI (tx p)) - (nI 48)).toInt64) ((nI lo).toInt64) ((nI hi).toInt64)) zw_654 zy_X6_in ⟨rfl, rfl⟩ (by decide) rfl rfl (Nat.le_of_ble_eq_true rfl) dX6_figure_35 ?_
    rintro _ M35 ⟨v35, rfl, q35⟩
    obtain ⟨q35, hmm⟩ := q35
    rw [hmm]
    rw [zin_f (by have := h255 p (by omega); omega) (by omega) (by omega)] at q35
    rcases q35 with ⟨q35, rfl⟩ | ⟨q35, rfl⟩
    · skip
      show zJ E x 38 _ [.int (nI 1)] _
      refine z_if_ne_n (tgt := 44) hx (by decide) dX6_figure_38 (by decide) (fun _ => ?_) (fun h => absurd h (by decide))
      refine z_aload_n hx 1 dX6_figure_44 rfl rfl ?_
      refine z_dup hx dX6_figure_45 rfl ?_
      refine zg_X6_3 hx zw_579 dX6_figure_46 ?_
      refine z_eqi (b := nI p) hp ?_
      refine z_iconst hx (v := nI 1) dX6_figure_49 (by decide +kernel) ?_
      refine z_iadd_n hx dX6_figure_50 ?_
      refine zp_X6_3 hx zw_579 dX6_figure_51 ?_
      refine z_iload_n hx 0 dX6_figure_54 rfl rfl ?_
      exact ri _ _ _ _ rfl ⟨_, rfl, Or.inl ⟨h8, q35.1, q35.2, zfg_v _ (by have := h255 p (by omega); omega) (by omega), rfl⟩⟩ dX6_figure_55
    · skip
      show zJ E x 38 _ [.int (nI 0)] _
      refine z_if_ne_n (tgt := 44) hx (by decide) dX6_figure_38 (by decide) (fun h => absurd h (by decide)) (fun _ => ?_)
      refine z_bipush hx (v := (-9)) dX6_figure_41 rfl ?_
      exact ri _ _ _ _ rfl ⟨_, rfl, Or.inr ⟨by omega, rfl, rfl⟩⟩ dX6_figure_43
set_option maxHeartbeats 4000000 in
set_option maxRecDepth 100000 in
theorem k_X6_sign {E : zE} (hI : zI E) (M : zM) {tx : Nat → Nat} {len : Nat} (ht : zTm M tx len) {p : Nat} (hp : M.1 32 3 = nI p) (hpl : p ≤ len) (b : Bool) : zK E yX6_sign (.code yX6_sign cX6_sign 4 (some .int)) (zrm 0 0) [.ref (E.2.2.2 32), .int (zdr b)] M (zpi (fun v M2 => (p < len ∧ (tx p = 43 ∨ tx p = 45 ∨ (tx p = 48 ∧ b = true)) ∧ v = nI (zpan (tx p)) ∧ M2 = zputI M 32 3 (nI (p + 1))) ∨ (¬ (p < len ∧ (tx p = 43 ∨ tx p = 45 ∨ (tx p = 48 ∧ b = true))) ∧ v = -9 ∧ M2 = zputI M 32 3 (nI p)))) := by
  refine zK_of hI (by decide) (Nat.le_of_ble_eq_true rfl) (fun x hx ri rz rl rv => ?_)
  show zJ E x 0 [(0, .ref (E.2.2.2 32)), (1, .int (zdr b))] [] M
  have hL : M.1 32 2 = nI len := ht.1
  have hT := ht.2.1
  have hlen : len ≤ 90 := ht.2.2.1
  have h255 := ht.2.2.2
  refine z_aload_n hx 0 dX6_sign_0 rfl rfl ?_
  refine zg_X6_3 hx zw_579 dX6_sign_1 ?_
  refine z_eqi (b := nI p) hp ?_
  refine z_aload_n hx 0 dX6_sign_4 rfl rfl ?_
  refine zg_X6_2 hx zw_578 dX6_sign_5 ?_
  refine z_eqi (b := nI len) hL ?_
  refine z_icmp_ge_n (tgt := 23) hx (by omega) (by omega) dX6_sign_8 (by decide) (fun h8 => ?_) (fun h8 => ?_)
  · skip
    refine z_iconst hx (v := nI 0) dX6_sign_23 (by decide +kernel) ?_
    refine z_istore_n hx (lv2 := [(2, .int (nI 0)), (0, .ref (E.2.2.2 32)), (1, .int (zdr b))]) dX6_sign_24 rfl (by decide) rfl ?_
    refine z_iload_n hx 0 dX6_sign_25 rfl rfl ?_
    refine z_bipush hx (v := nI 43) dX6_sign_26 (by decide +kernel) ?_
    refine z_icmp_ne_n (tgt := 35) hx (by omega) (by omega) dX6_sign_28 (by decide) (fun h28 => ?_) (fun h28 => ?_)
    · skip
      refine z_iload_n hx 0 dX6_sign_35 rfl rfl ?_
      refine z_bipush hx (v := nI 45) dX6_sign_36 (by decide +kernel) ?_
      refine z_icmp_ne_n (tgt := 45) hx (by omega) (by omega) dX6_sign_38 (by decide) (fun h38 => ?_) (fun h38 => ?_)
      · skip
        refine z_iload_n hx 0 dX6_sign_45 rfl rfl ?_
        refine z_bipush hx (v := nI 48) dX6_sign_46 (by decide +kernel) ?_
        refine z_icmp_ne_n (tgt := 59) hx (by omega) (by omega) dX6_sign_48 (by decide) (fun h48 => ?_) (fun h48 => ?_)
        · skip
          refine z_bipush hx (v := (-9)) dX6_sign_59 rfl ?_
          refine z_istore_n hx (lv2 := [(3, .int (-9)), (2, .int (nI 0)), (0, .ref (E.2.2.2 32)), (1, .int (zdr b))]) dX6_sign_61 rfl (by decide) rfl ?_
          refine z_aload_n hx 2 dX6_sign_62 rfl rfl ?_
          refine z_dup hx dX6_sign_63 rfl ?_
          refine zg_X6_3 hx zw_579 dX6_sign_64 ?_
          refine z_eqi (b := nI p) hp ?_
          refine z_iload_n hx 0 dX6_sign_67 rfl rfl ?_
          refine z_bipush hx (v := (-9)) dX6_sign_68 rfl ?_
          refine z_icmp_ne (tgt := 77) hx dX6_sign_70 (by decide) (fun h => absurd rfl h) (fun _ => ?_)
          refine z_iconst hx (v := nI 0) dX6_sign_73 (by decide +kernel) ?_
          refine z_goto (tgt := 78) hx dX6_sign_74 (by decide) ?_
          refine z_iadd_n hx dX6_sign_78 ?_
          refine zp_X6_3 hx zw_579 dX6_sign_79 ?_
          refine z_iload_n hx 0 dX6_sign_82 rfl rfl ?_
          exact ri _ _ _ _ rfl ⟨_, rfl, Or.inr ⟨by (try rw [hb]); (try simp only [Bool.false_eq_true, and_false, or_false]); omega, rfl, rfl⟩⟩ dX6_sign_83
        · skip
          exact absurd h48 (by decide)
      · skip
        exact absurd h38 (by decide)
    · skip
      exact absurd h28 (by decide)
  · skip
    have hl := h255 p (by omega)
    refine z_aload_n hx 0 dX6_sign_11 rfl rfl ?_
    refine zg_X6_1 hx zw_577 dX6_sign_12 ?_
    refine z_aload_n hx 0 dX6_sign_15 rfl rfl ?_
    refine zg_X6_3 hx zw_579 dX6_sign_16 ?_
    refine z_eqi (b := nI p) hp ?_
    refine z_iald_n hx (zIA_33 E) (by omega) dX6_sign_19 ?_
    refine z_eqi (b := nI (tx p)) (hT p (by omega)) ?_
    refine z_goto (tgt := 24) hx dX6_sign_20 (by decide) ?_
    refine z_istore_n hx (lv2 := [(2, .int (nI (tx p))), (0, .ref (E.2.2.2 32)), (1, .int (zdr b))]) dX6_sign_24 rfl (by decide) rfl ?_
    refine z_iload_n hx 0 dX6_sign_25 rfl rfl ?_
    refine z_bipush hx (v := nI 43) dX6_sign_26 (by decide +kernel) ?_
    refine z_icmp_ne_n (tgt := 35) hx (by omega) (by omega) dX6_sign_28 (by decide) (fun h28 => ?_) (fun h28 => ?_)
    · skip
      refine z_iload_n hx 0 dX6_sign_35 rfl rfl ?_
      refine z_bipush hx (v := nI 45) dX6_sign_36 (by decide +kernel) ?_
      refine z_icmp_ne_n (tgt := 45) hx (by omega) (by omega) dX6_sign_38 (by decide) (fun h38 => ?_) (fun h38 => ?_)
      · skip
        refine z_iload_n hx 0 dX6_sign_45 rfl rfl ?_
        refine z_bipush hx (v := nI 48) dX6_sign_46 (by decide +kernel) ?_
        refine z_icmp_ne_n (tgt := 59) hx (by omega) (by omega) dX6_sign_48 (by decide) (fun h48 => ?_) (fun h48 => ?_)
        · skip
          refine z_bipush hx (v := (-9)) dX6_sign_59 rfl ?_
          refine z_istore_n hx (lv2 := [(3, .int (-9)), (2, .int (nI (tx p))), (0, .ref (E.2.2.2 32)), (1, .int (zdr b))]) dX6_sign_61 rfl (by decide) rfl ?_
          refine z_aload_n hx 2 dX6_sign_62 rfl rfl ?_
          refine z_dup hx dX6_sign_63 rfl ?_
          refine zg_X6_3 hx zw_579 dX6_sign_64 ?_
          refine z_eqi (b := nI p) hp ?_
          refine z_iload_n hx 0 dX6_sign_67 rfl rfl ?_
          refine z_bipush hx (v := (-9)) dX6_sign_68 rfl ?_
          refine z_icmp_ne (tgt := 77) hx dX6_sign_70 (by decide) (fun h => absurd rfl h) (fun _ => ?_)
          refine z_iconst hx (v := nI 0) dX6_sign_73 (by decide +kernel) ?_
          refine z_goto (tgt := 78) hx dX6_sign_74 (by decide) ?_
          refine z_iadd_n hx dX6_sign_78 ?_
          refine zp_X6_3 hx zw_579 dX6_sign_79 ?_
          refine z_iload_n hx 0 dX6_sign_82 rfl rfl ?_
          exact ri _ _ _ _ rfl ⟨_, rfl, Or.inr ⟨by (try rw [hb]); (try simp only [Bool.false_eq_true, and_false, or_false]); omega, rfl, rfl⟩⟩ dX6_sign_83
        · skip
          refine z_iload_n hx 2 dX6_sign_51 rfl rfl ?_
          refine z_if_eq_d (tgt := 59) hx dX6_sign_52 (by decide) (fun h52 => ?_) (fun h52 => ?_)
          · skip
            have hb : b = false := h52
            refine z_bipush hx (v := (-9)) dX6_sign_59 rfl ?_
            refine z_istore_n hx (lv2 := [(3, .int (-9)), (2, .int (nI (tx p))), (0, .ref (E.2.2.2 32)), (1, .int (zdr b))]) dX6_sign_61 rfl (by decide) rfl ?_
            refine z_aload_n hx 2 dX6_sign_62 rfl rfl ?_
            refine z_dup hx dX6_sign_63 rfl ?_
            refine zg_X6_3 hx zw_579 dX6_sign_64 ?_
            refine z_eqi (b := nI p) hp ?_
            refine z_iload_n hx 0 dX6_sign_67 rfl rfl ?_
            refine z_bipush hx (v := (-9)) dX6_sign_68 rfl ?_
            refine z_icmp_ne (tgt := 77) hx dX6_sign_70 (by decide) (fun h => absurd rfl h) (fun _ => ?_)
            refine z_iconst hx (v := nI 0) dX6_sign_73 (by decide +kernel) ?_
            refine z_goto (tgt := 78) hx dX6_sign_74 (by decide) ?_
            refine z_iadd_n hx dX6_sign_78 ?_
            refine zp_X6_3 hx zw_579 dX6_sign_79 ?_
            refine z_iload_n hx 0 dX6_sign_82 rfl rfl ?_
            exact ri _ _ _ _ rfl ⟨_, rfl, Or.inr ⟨by (try rw [hb]); (try simp only [Bool.false_eq_true, and_false, or_false]); omega, rfl, rfl⟩⟩ dX6_sign_83
          · skip
            have hb : b = true := h52
            refine z_iconst hx (v := nI 0) dX6_sign_55 (by decide +kernel) ?_
            refine z_goto (tgt := 61) hx dX6_sign_56 (by decide) ?_
            refine z_istore_n hx (lv2 := [(3, .int (nI 0)), (2, .int (nI (tx p))), (0, .ref (E.2.2.2 32)), (1, .int (zdr b))]) dX6_sign_61 rfl (by decide) rfl ?_
            refine z_aload_n hx 2 dX6_sign_62 rfl rfl ?_
            refine z_dup hx dX6_sign_63 rfl ?_
            refine zg_X6_3 hx zw_579 dX6_sign_64 ?_
            refine z_eqi (b := nI p) hp ?_
            refine z_iload_n hx 0 dX6_sign_67 rfl rfl ?_
            refine z_bipush hx (v := (-9)) dX6_sign_68 rfl ?_
            refine z_icmp_ne (tgt := 77) hx dX6_sign_70 (by decide) (fun _ => ?_) (fun h => absurd h (zn9 (by omega)))
            refine z_iconst hx (v := nI 1) dX6_sign_77 (by decide +kernel) ?_
            refine z_iadd_n hx dX6_sign_78 ?_
            refine zp_X6_3 hx zw_579 dX6_sign_79 ?_
            refine z_iload_n hx 0 dX6_sign_82 rfl rfl ?_
            exact ri _ _ _ _ rfl ⟨_, rfl, Or.inl ⟨h8, Or.inr (Or.inr ⟨h48, hb⟩), by rw [h48]; rfl, rfl⟩⟩ dX6_sign_83
      · skip
        refine z_iconst hx (v := nI 2) dX6_sign_41 (by decide +kernel) ?_
        refine z_goto (tgt := 61) hx dX6_sign_42 (by decide) ?_
        refine z_istore_n hx (lv2 := [(3, .int (nI 2)), (2, .int (nI (tx p))), (0, .ref (E.2.2.2 32)), (1, .int (zdr b))]) dX6_sign_61 rfl (by decide) rfl ?_
        refine z_aload_n hx 2 dX6_sign_62 rfl rfl ?_
        refine z_dup hx dX6_sign_63 rfl ?_
        refine zg_X6_3 hx zw_579 dX6_sign_64 ?_
        refine z_eqi (b := nI p) hp ?_
        refine z_iload_n hx 0 dX6_sign_67 rfl rfl ?_
        refine z_bipush hx (v := (-9)) dX6_sign_68 rfl ?_
        refine z_icmp_ne (tgt := 77) hx dX6_sign_70 (by decide) (fun _ => ?_) (fun h => absurd h (zn9 (by omega)))
        refine z_iconst hx (v := nI 1) dX6_sign_77 (by decide +kernel) ?_
        refine z_iadd_n hx dX6_sign_78 ?_
        refine zp_X6_3 hx zw_579 dX6_sign_79 ?_
        refine z_iload_n hx 0 dX6_sign_82 rfl rfl ?_
        exact ri _ _ _ _ rfl ⟨_, rfl, Or.inl ⟨h8, Or.inr (Or.inl h38), by rw [h38]; rfl, rfl⟩⟩ dX6_sign_83
    · skip
      refine z_iconst hx (v := nI 1) dX6_sign_31 (by decide +kernel) ?_
      refine z_goto (tgt := 61) hx dX6_sign_32 (by decide) ?_
      refine z_istore_n hx (lv2 := [(3, .int (nI 1)), (2, .int (nI (tx p))), (0, .ref (E.2.2.2 32)), (1, .int (zdr b))]) dX6_sign_61 rfl (by decide) rfl ?_
      refine z_aload_n hx 2 dX6_sign_62 rfl rfl ?_
      refine z_dup hx dX6_sign_63 rfl ?_
      refine zg_X6_3 hx zw_579 dX6_sign_64 ?_
      refine z_eqi (b := nI p) hp ?_
      refine z_iload_n hx 0 dX6_sign_67 rfl rfl ?_
      refine z_bipush hx (v := (-9)) dX6_sign_68 rfl ?_
      refine z_icmp_ne (tgt := 77) hx dX6_sign_70 (by decide) (fun _ => ?_) (fun h => absurd h (zn9 (by omega)))
      refine z_iconst hx (v := nI 1) dX6_sign_77 (by decide +kernel) ?_
      refine z_iadd_n hx dX6_sign_78 ?_
      refine zp_X6_3 hx zw_579 dX6_sign_79 ?_
      refine z_iload_n hx 0 dX6_sign_82 rfl rfl ?_
      exact ri _ _ _ _ rfl ⟨_, rfl, Or.inl ⟨h8, Or.inl h28, by rw [h28]; rfl, rfl⟩⟩ dX6_sign_83
def zStk (tx : Nat → Nat) (len p : Nat) : Prop := p ≤ len ∧ (∀ j, j < p → zfit tx j) ∧ (p < len → ¬ zfit tx p) ∧ (p = len → ¬ (4 ≤ len ∧ (len - 4) % (zwt tx + 6) = 0))
theorem zStk_ft {tx : Nat → Nat} {len p : Nat} (h : zStk tx len p) : zFt tx len (nI p) := by
  obtain ⟨h1, h2, h3, h4⟩ := h
  rcases Nat.lt_or_ge p len with q | q
  · exact Or.inl ⟨p, q, h2, h3 q, rfl⟩
  · have e : p = len := by omega
    subst e
    exact Or.inr ⟨h2, Or.inr ⟨h4 rfl, rfl⟩⟩
theorem zstk_in {tx : Nat → Nat} {len m i p : Nat} (e : p = 4 + m * (zwt tx + 6) + i) (h0 : 0 < i) (hi : i < zwt tx + 6) (hall : ∀ j, j < p → zfit tx j) (hle : p ≤ len) (hno : p < len → ¬ zfit tx p) : zStk tx len p := by
  refine ⟨hle, hall, hno, fun e2 => ?_⟩
  rintro ⟨z1, z2⟩
  have hm := zmod_at (e := zwt tx + 6) (t := m) (i := i) hi
  rw [← e2, e] at z2
  omega
theorem zfit_at {tx : Nat → Nat} {m i p : Nat} (e : p = 4 + m * (zwt tx + 6) + i) (hi : i < zwt tx + 6) : zfit tx p ↔ (if i = 0 then tx p = 119 ∧ m < 8 else if i ≤ zwt tx + 1 then tx p = 48 ∨ zsgn (tx p) else if i = zwt tx + 2 then zsgn (tx p) else zfig (tx p)) := by
  have hm := zmod_at (e := zwt tx + 6) (t := m) (i := i) hi
  unfold zfit
  rw [if_neg (by omega), if_neg (by omega), if_neg (by omega), e, hm.1, hm.2]
def zfg (tx : Nat → Nat) (p : Nat) : Nat → Nat
  | 0 => 0
  | k + 1 => 10 * zfg tx p k + (tx (p + k) - 48)
theorem zfg_3 (tx : Nat → Nat) (s : Nat) : zfg tx (s + 1) 3 = zsz tx s := by
  simp only [zfg, zsz, Nat.add_zero]
  rw [show s + 1 + 1 = s + 2 from rfl, show s + 1 + 2 = s + 3 from rfl]
  omega
set_option maxHeartbeats 4000000 in
set_option maxRecDepth 100000 in
theorem k_X6_readHead {E : zE} (hI : zI E) (M : zM) {tx : Nat → Nat} {len : Nat} (ht : zTm M tx len) (hp : M.1 32 3 = nI 0) : zK E yX6_readHead (.code yX6_readHead cX6_readHead 3 (some .boolean)) (zrm 2 48) [.ref (E.2.2.2 32)] M (zpi (fun v M2 => (v = nI 1 ∧ 4 ≤ len ∧ zfit tx 0 ∧ zfit tx 1 ∧ zfit tx 2 ∧ zfit tx 3 ∧ M2.1 32 3 = nI 4 ∧ M2.1 32 5 = nI (zwt tx) ∧ M2.1 34 0 = nI (zmmT tx) ∧ (∀ j, ¬ j = 0 → M2.1 34 j = M.1 34 j) ∧ zfm (fun c => c = 34) (fun k => k = 3 ∨ k = 5) M M2) ∨ (v = nI 0 ∧ (∃ p, M2.1 32 3 = nI p ∧ zStk tx len p) ∧ zfm (fun c => c = 34) (fun k => k = 3 ∨ k = 5) M M2))) := by
  refine zK_of hI (by decide) (Nat.le_of_ble_eq_true rfl) (fun x hx ri rz rl rv => ?_)
  show zJ E x 0 [(0, .ref (E.2.2.2 32))] [] M
  have hL : M.1 32 2 = nI len := ht.1
  have hT := ht.2.1
  have hlen : len ≤ 90 := ht.2.2.1
  have h255 := ht.2.2.2
  have hl0 := h255 0 (by omega)
  have hl1 := h255 1 (by omega)
  have hl2 := h255 2 (by omega)
  have hl3 := h255 3 (by omega)
  refine z_aload_n hx 0 dX6_readHead_0 rfl rfl ?_
  refine zg_X6_2 hx zw_578 dX6_readHead_1 ?_
  refine z_eqi (b := nI len) hL ?_
  refine z_if_eq_n (tgt := 18) hx (by omega) dX6_readHead_4 (by decide) (fun h4 => ?_) (fun h4 => ?_)
  · skip
    refine z_iconst hx (v := nI 0) dX6_readHead_18 (by decide +kernel) ?_
    exact rz _ _ _ _ rfl (Or.inl rfl) ⟨_, rfl, (Or.inr ⟨rfl, ⟨0, hp, by omega, fun j hj => by omega, fun z => by first | omega | exact h15, fun z => by omega⟩, zfm_rf _ _ _⟩)⟩ dX6_readHead_19
  · skip
    refine z_aload_n hx 0 dX6_readHead_7 rfl rfl ?_
    refine zg_X6_1 hx zw_577 dX6_readHead_8 ?_
    refine z_iconst hx (v := nI 0) dX6_readHead_11 (by decide +kernel) ?_
    refine z_iald_n hx (zIA_33 E) (by omega) dX6_readHead_12 ?_
    refine z_eqi (b := nI (tx 0)) (hT 0 (by omega)) ?_
    refine z_bipush hx (v := nI 66) dX6_readHead_13 (by decide +kernel) ?_
    refine z_icmp_eq_n (tgt := 20) hx (by omega) (by omega) dX6_readHead_15 (by decide) (fun h15 => ?_) (fun h15 => ?_)
    · skip
      refine z_aload_n hx 0 dX6_readHead_20 rfl rfl ?_
      refine z_iconst hx (v := nI 1) dX6_readHead_21 (by decide +kernel) ?_
      refine zp_X6_3 hx zw_579 dX6_readHead_22 ?_
      refine z_aload_n hx 0 dX6_readHead_25 rfl rfl ?_
      refine z_aload_n hx 0 dX6_readHead_26 rfl rfl ?_
      refine z_iconst hx (v := nI 1) dX6_readHead_27 (by decide +kernel) ?_
      refine z_iconst hx (v := nI 4) dX6_readHead_28 (by decide +kernel) ?_
      refine z_callV hx (As := [.int (nI 1), .int (nI 4)]) (st := [.ref (E.2.2.2 32)]) (k_X6_figure hI (zputI M 32 3 (nI 1)) (zTm_3 ht) (p := 1) zhtI (by omega) 1 4 (by omega) (by omega)) zw_673 zy_X6_figure ⟨rfl, rfl⟩ (by decide) (zOB_X6 E) rfl rfl rfl rfl (Nat.le_of_ble_eq_true rfl) dX6_readHead_29 ?_
      rintro _ M29 ⟨v29, rfl, q29⟩
      rcases q29 with ⟨q29, qa1, qb1, rfl, rfl⟩ | ⟨q29, rfl, rfl⟩
      · skip
        show zJ E x 32 _ [.int (nI (tx (1) - 48)), .ref (E.2.2.2 32)] _
        refine zp_X6_5 hx zw_581 dX6_readHead_32 ?_
        refine z_aload_n hx 0 dX6_readHead_35 rfl rfl ?_
        refine zg_X6_5 hx zw_581 dX6_readHead_36 ?_
        refine z_eqi (b := nI (tx (1) - 48)) zhtI ?_
        refine z_bipush hx (v := (-9)) dX6_readHead_39 rfl ?_
        refine z_icmp_ne (tgt := 49) hx dX6_readHead_41 (by decide) (fun _ => ?_) (fun h => absurd h (zn9 (by omega)))
        refine z_aload_n hx 0 dX6_readHead_49 rfl rfl ?_
        refine z_iconst hx (v := nI 0) dX6_readHead_50 (by decide +kernel) ?_
        refine z_bipush hx (v := nI 9) dX6_readHead_51 (by decide +kernel) ?_
        refine z_callV hx (As := [.int (nI 0), .int (nI 9)]) (st := []) (k_X6_figure hI (zputI (zputI (zputI M 32 3 (nI 1)) 32 3 (nI (1 + 1))) 32 5 (nI (tx (1) - 48))) (zTm_5 (zTm_3 (zTm_3 ht))) (p := 2) (zskK (by omega) zhtI) (by omega) 0 9 (by omega) (by omega)) zw_673 zy_X6_figure ⟨rfl, rfl⟩ (by decide) (zOB_X6 E) rfl rfl rfl rfl (Nat.le_of_ble_eq_true rfl) dX6_readHead_53 ?_
        rintro _ M53 ⟨v53, rfl, q53⟩
        rcases q53 with ⟨q53, qa2, qb2, rfl, rfl⟩ | ⟨q53, rfl, rfl⟩
        · skip
          show zJ E x 56 _ [.int (nI (tx (2) - 48))] _
          refine z_istore_n hx (lv2 := [(1, .int (nI (tx (2) - 48))), (0, .ref (E.2.2.2 32))]) dX6_readHead_56 rfl (by decide) rfl ?_
          refine z_iload_n hx 0 dX6_readHead_57 rfl rfl ?_
          refine z_bipush hx (v := (-9)) dX6_readHead_58 rfl ?_
          refine z_icmp_ne (tgt := 68) hx dX6_readHead_60 (by decide) (fun _ => ?_) (fun h => absurd h (zn9 (by omega)))
          refine z_aload_n hx 1 dX6_readHead_68 rfl rfl ?_
          refine z_iconst hx (v := nI 0) dX6_readHead_69 (by decide +kernel) ?_
          refine z_bipush hx (v := nI 9) dX6_readHead_70 (by decide +kernel) ?_
          refine z_callV hx (As := [.int (nI 0), .int (nI 9)]) (st := []) (k_X6_figure hI (zputI (zputI (zputI (zputI M 32 3 (nI 1)) 32 3 (nI (1 + 1))) 32 5 (nI (tx (1) - 48))) 32 3 (nI (2 + 1))) (zTm_3 (zTm_5 (zTm_3 (zTm_3 ht)))) (p := 3) zhtI (by omega) 0 9 (by omega) (by omega)) zw_673 zy_X6_figure ⟨rfl, rfl⟩ (by decide) (zOB_X6 E) rfl rfl rfl rfl (Nat.le_of_ble_eq_true rfl) dX6_readHead_72 ?_
          rintro _ M72 ⟨v72, rfl, q72⟩
          rcases q72 with ⟨q72, qa3, qb3, rfl, rfl⟩ | ⟨q72, rfl, rfl⟩
          · skip
            show zJ E x 75 _ [.int (nI (tx (3) - 48))] _
            refine z_istore_n hx (lv2 := [(2, .int (nI (tx (3) - 48))), (1, .int (nI (tx (2) - 48))), (0, .ref (E.2.2.2 32))]) dX6_readHead_75 rfl (by decide) rfl ?_
            have hf0 : zfit tx 0 := h15
            have hf1 : zfit tx 1 := (show 49 ≤ tx 1 ∧ tx 1 ≤ 52 from ⟨by omega, by omega⟩)
            have hf2 : zfit tx 2 := (show 48 ≤ tx 2 ∧ tx 2 ≤ 57 from ⟨by omega, by omega⟩)
            have hwt : zwt tx = tx 1 - 48 := by rw [zwt, if_pos (by omega)]
            refine z_aload_n hx 2 dX6_readHead_76 rfl rfl ?_
            refine zg_X6_6 hx zw_582 dX6_readHead_77 ?_
            refine z_iconst hx (v := nI 0) dX6_readHead_80 (by decide +kernel) ?_
            refine z_bipush hx (v := nI 10) dX6_readHead_81 (by decide +kernel) ?_
            refine z_iload_n hx 1 dX6_readHead_83 rfl rfl ?_
            refine z_imul_n hx dX6_readHead_84 ?_
            refine z_iload_n hx 0 dX6_readHead_85 rfl rfl ?_
            refine z_iadd_n hx dX6_readHead_86 ?_
            refine z_iast_n hx (zIA_34 E) (by omega) dX6_readHead_87 ?_
            refine z_iload_n hx 0 dX6_readHead_88 rfl rfl ?_
            refine z_bipush hx (v := (-9)) dX6_readHead_89 rfl ?_
            refine z_icmp_eq (tgt := 98) hx dX6_readHead_91 (by decide) (fun h => absurd h (zn9 (by omega))) (fun _ => ?_)
            refine z_iconst hx (v := nI 1) dX6_readHead_94 (by decide +kernel) ?_
            refine z_goto (tgt := 99) hx dX6_readHead_95 (by decide) ?_
            exact rz _ _ _ _ rfl (Or.inr rfl) ⟨_, rfl, (by
                refine Or.inl ⟨rfl, by omega, hf0, hf1, ?_, ?_, ?_⟩
                · exact ⟨by omega, by omega⟩
                · exact ⟨by omega, by omega⟩
                · refine ⟨zskI (by omega) zhtI, zskI (by omega) (zskK (by omega) (zskK (by omega) ?_)), zhtI, fun j hj => zskK hj (zskI (by omega) (zskI (by omega) (zskI (by omega) (zskI (by omega) (zskI (by omega) rfl))))), ?_⟩
                  · exact zhtI.trans (by rw [hwt])
                  · exact zfm_tr (zfm_tr (zfm_tr (zfm_tr (zfm_tr (zfm_fI (Or.inl rfl)) (zfm_fI (Or.inl rfl))) (zfm_fI (Or.inr rfl))) (zfm_fI (Or.inl rfl))) (zfm_fI (Or.inl rfl))) (zfm_cI rfl (by omega)))⟩ dX6_readHead_99
          · skip
            show zJ E x 75 _ [.int (-9)] _
            refine z_istore_n hx (lv2 := [(2, .int (-9)), (1, .int (nI (tx (2) - 48))), (0, .ref (E.2.2.2 32))]) dX6_readHead_75 rfl (by decide) rfl ?_
            have hf0 : zfit tx 0 := h15
            have hf1 : zfit tx 1 := (show 49 ≤ tx 1 ∧ tx 1 ≤ 52 from ⟨by omega, by omega⟩)
            have hf2 : zfit tx 2 := (show 48 ≤ tx 2 ∧ tx 2 ≤ 57 from ⟨by omega, by omega⟩)
            have hfit : ∀ j, j < 3 → zfit tx j := fun j hj => by rcases (show j = 0 ∨ j = 1 ∨ j = 2 by omega) with rfl | rfl | rfl; exact hf0; exact hf1; exact hf2
            have hnof : 3 < len → ¬ zfit tx 3 := fun z1 z2 => q72 ⟨z1, by have z3 : 48 ≤ tx 3 ∧ tx 3 ≤ 57 := z2; omega⟩
            refine z_aload_n hx 2 dX6_readHead_76 rfl rfl ?_
            refine zg_X6_6 hx zw_582 dX6_readHead_77 ?_
            refine z_iconst hx (v := nI 0) dX6_readHead_80 (by decide +kernel) ?_
            refine z_bipush hx (v := nI 10) dX6_readHead_81 (by decide +kernel) ?_
            refine z_iload_n hx 1 dX6_readHead_83 rfl rfl ?_
            refine z_imul_n hx dX6_readHead_84 ?_
            refine z_iload_n hx 0 dX6_readHead_85 rfl rfl ?_
            refine z_iadd hx dX6_readHead_86 ?_
            refine z_iast_n hx (zIA_34 E) (by omega) dX6_readHead_87 ?_
            refine z_iload_n hx 0 dX6_readHead_88 rfl rfl ?_
            refine z_bipush hx (v := (-9)) dX6_readHead_89 rfl ?_
            refine z_icmp_eq (tgt := 98) hx dX6_readHead_91 (by decide) (fun _ => ?_) (fun h => absurd rfl h)
            refine z_iconst hx (v := nI 0) dX6_readHead_98 (by decide +kernel) ?_
            exact rz _ _ _ _ rfl (Or.inl rfl) ⟨_, rfl, (by
                refine Or.inr ⟨rfl, ⟨3, ?_, by omega, fun j hj => ?_, fun z => ?_, fun z => by omega⟩, ?_⟩
                · first | exact zskI (by omega) (zskK (by omega) zhtI) | exact zskI (by omega) zhtI
                · have hf := hfit j hj
                  exact hf
                · exact hnof z
                · first | exact zfm_tr (zfm_tr (zfm_tr (zfm_tr (zfm_fI (Or.inl rfl)) (zfm_fI (Or.inl rfl))) (zfm_fI (Or.inr rfl))) (zfm_fI (Or.inl rfl))) (zfm_cI rfl (by omega)) | exact zfm_tr (zfm_tr (zfm_tr (zfm_fI (Or.inl rfl)) (zfm_fI (Or.inl rfl))) (zfm_fI (Or.inr rfl))) (zfm_cI rfl (by omega)) | exact zfm_tr (zfm_tr (zfm_fI (Or.inl rfl)) (zfm_fI (Or.inr rfl))) (zfm_cI rfl (by omega)))⟩ dX6_readHead_99
        · skip
          show zJ E x 56 _ [.int (-9)] _
          refine z_istore_n hx (lv2 := [(1, .int (-9)), (0, .ref (E.2.2.2 32))]) dX6_readHead_56 rfl (by decide) rfl ?_
          refine z_iload_n hx 0 dX6_readHead_57 rfl rfl ?_
          refine z_bipush hx (v := (-9)) dX6_readHead_58 rfl ?_
          refine z_icmp_ne (tgt := 68) hx dX6_readHead_60 (by decide) (fun h => absurd rfl h) (fun _ => ?_)
          refine z_bipush hx (v := (-9)) dX6_readHead_63 rfl ?_
          refine z_goto (tgt := 75) hx dX6_readHead_65 (by decide) ?_
          refine z_istore_n hx (lv2 := [(2, .int (-9)), (1, .int (-9)), (0, .ref (E.2.2.2 32))]) dX6_readHead_75 rfl (by decide) rfl ?_
          have hf0 : zfit tx 0 := h15
          have hf1 : zfit tx 1 := (show 49 ≤ tx 1 ∧ tx 1 ≤ 52 from ⟨by omega, by omega⟩)
          have hfit : ∀ j, j < 2 → zfit tx j := fun j hj => by rcases (show j = 0 ∨ j = 1 by omega) with rfl | rfl; exact hf0; exact hf1
          have hnof : 2 < len → ¬ zfit tx 2 := fun z1 z2 => q53 ⟨z1, by have z3 : 48 ≤ tx 2 ∧ tx 2 ≤ 57 := z2; omega⟩
          refine z_aload_n hx 2 dX6_readHead_76 rfl rfl ?_
          refine zg_X6_6 hx zw_582 dX6_readHead_77 ?_
          refine z_iconst hx (v := nI 0) dX6_readHead_80 (by decide +kernel) ?_
          refine z_bipush hx (v := nI 10) dX6_readHead_81 (by decide +kernel) ?_
          refine z_iload_n hx 1 dX6_readHead_83 rfl rfl ?_
          refine z_imul hx dX6_readHead_84 ?_
          refine z_iload_n hx 0 dX6_readHead_85 rfl rfl ?_
          refine z_iadd hx dX6_readHead_86 ?_
          refine z_iast_n hx (zIA_34 E) (by omega) dX6_readHead_87 ?_
          refine z_iload_n hx 0 dX6_readHead_88 rfl rfl ?_
          refine z_bipush hx (v := (-9)) dX6_readHead_89 rfl ?_
          refine z_icmp_eq (tgt := 98) hx dX6_readHead_91 (by decide) (fun _ => ?_) (fun h => absurd rfl h)
          refine z_iconst hx (v := nI 0) dX6_readHead_98 (by decide +kernel) ?_
          exact rz _ _ _ _ rfl (Or.inl rfl) ⟨_, rfl, (by
              refine Or.inr ⟨rfl, ⟨2, ?_, by omega, fun j hj => ?_, fun z => ?_, fun z => by omega⟩, ?_⟩
              · first | exact zskI (by omega) (zskK (by omega) zhtI) | exact zskI (by omega) zhtI
              · have hf := hfit j hj
                exact hf
              · exact hnof z
              · first | exact zfm_tr (zfm_tr (zfm_tr (zfm_tr (zfm_fI (Or.inl rfl)) (zfm_fI (Or.inl rfl))) (zfm_fI (Or.inr rfl))) (zfm_fI (Or.inl rfl))) (zfm_cI rfl (by omega)) | exact zfm_tr (zfm_tr (zfm_tr (zfm_fI (Or.inl rfl)) (zfm_fI (Or.inl rfl))) (zfm_fI (Or.inr rfl))) (zfm_cI rfl (by omega)) | exact zfm_tr (zfm_tr (zfm_fI (Or.inl rfl)) (zfm_fI (Or.inr rfl))) (zfm_cI rfl (by omega)))⟩ dX6_readHead_99
      · skip
        show zJ E x 32 _ [.int (-9), .ref (E.2.2.2 32)] _
        refine zp_X6_5 hx zw_581 dX6_readHead_32 ?_
        refine z_aload_n hx 0 dX6_readHead_35 rfl rfl ?_
        refine zg_X6_5 hx zw_581 dX6_readHead_36 ?_
        refine z_eqi (b := (-9)) zhtI ?_
        refine z_bipush hx (v := (-9)) dX6_readHead_39 rfl ?_
        refine z_icmp_ne (tgt := 49) hx dX6_readHead_41 (by decide) (fun h => absurd rfl h) (fun _ => ?_)
        refine z_bipush hx (v := (-9)) dX6_readHead_44 rfl ?_
        refine z_goto (tgt := 56) hx dX6_readHead_46 (by decide) ?_
        refine z_istore_n hx (lv2 := [(1, .int (-9)), (0, .ref (E.2.2.2 32))]) dX6_readHead_56 rfl (by decide) rfl ?_
        refine z_iload_n hx 0 dX6_readHead_57 rfl rfl ?_
        refine z_bipush hx (v := (-9)) dX6_readHead_58 rfl ?_
        refine z_icmp_ne (tgt := 68) hx dX6_readHead_60 (by decide) (fun h => absurd rfl h) (fun _ => ?_)
        refine z_bipush hx (v := (-9)) dX6_readHead_63 rfl ?_
        refine z_goto (tgt := 75) hx dX6_readHead_65 (by decide) ?_
        refine z_istore_n hx (lv2 := [(2, .int (-9)), (1, .int (-9)), (0, .ref (E.2.2.2 32))]) dX6_readHead_75 rfl (by decide) rfl ?_
        have hf0 : zfit tx 0 := h15
        have hfit : ∀ j, j < 1 → zfit tx j := fun j hj => by rw [show j = 0 by omega]; exact hf0
        have hnof : 1 < len → ¬ zfit tx 1 := fun z1 z2 => q29 ⟨z1, by have z3 : 49 ≤ tx 1 ∧ tx 1 ≤ 52 := z2; omega⟩
        refine z_aload_n hx 2 dX6_readHead_76 rfl rfl ?_
        refine zg_X6_6 hx zw_582 dX6_readHead_77 ?_
        refine z_iconst hx (v := nI 0) dX6_readHead_80 (by decide +kernel) ?_
        refine z_bipush hx (v := nI 10) dX6_readHead_81 (by decide +kernel) ?_
        refine z_iload_n hx 1 dX6_readHead_83 rfl rfl ?_
        refine z_imul hx dX6_readHead_84 ?_
        refine z_iload_n hx 0 dX6_readHead_85 rfl rfl ?_
        refine z_iadd hx dX6_readHead_86 ?_
        refine z_iast_n hx (zIA_34 E) (by omega) dX6_readHead_87 ?_
        refine z_iload_n hx 0 dX6_readHead_88 rfl rfl ?_
        refine z_bipush hx (v := (-9)) dX6_readHead_89 rfl ?_
        refine z_icmp_eq (tgt := 98) hx dX6_readHead_91 (by decide) (fun _ => ?_) (fun h => absurd rfl h)
        refine z_iconst hx (v := nI 0) dX6_readHead_98 (by decide +kernel) ?_
        exact rz _ _ _ _ rfl (Or.inl rfl) ⟨_, rfl, (by
            refine Or.inr ⟨rfl, ⟨1, ?_, by omega, fun j hj => ?_, fun z => ?_, fun z => by omega⟩, ?_⟩
            · first | exact zskI (by omega) (zskK (by omega) zhtI) | exact zskI (by omega) zhtI
            · have hf := hfit j hj
              exact hf
            · exact hnof z
            · first | exact zfm_tr (zfm_tr (zfm_tr (zfm_tr (zfm_fI (Or.inl rfl)) (zfm_fI (Or.inl rfl))) (zfm_fI (Or.inr rfl))) (zfm_fI (Or.inl rfl))) (zfm_cI rfl (by omega)) | exact zfm_tr (zfm_tr (zfm_tr (zfm_fI (Or.inl rfl)) (zfm_fI (Or.inl rfl))) (zfm_fI (Or.inr rfl))) (zfm_cI rfl (by omega)) | exact zfm_tr (zfm_tr (zfm_fI (Or.inl rfl)) (zfm_fI (Or.inr rfl))) (zfm_cI rfl (by omega)))⟩ dX6_readHead_99
    · skip
      refine z_iconst hx (v := nI 0) dX6_readHead_18 (by decide +kernel) ?_
      exact rz _ _ _ _ rfl (Or.inl rfl) ⟨_, rfl, (Or.inr ⟨rfl, ⟨0, hp, by omega, fun j hj => by omega, fun z => by first | omega | exact h15, fun z => by omega⟩, zfm_rf _ _ _⟩)⟩ dX6_readHead_19
