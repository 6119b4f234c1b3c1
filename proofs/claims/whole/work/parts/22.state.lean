/-- a room's numbers: weights, weighings, the master, codes, readings -/
abbrev zRo : Type := Nat × Nat × Nat × (Nat → Nat) × (Nat → Int)
def zHr (M : zM) (a : Nat) (r : zRo) : Prop := zRm M a r.1 r.2.1 r.2.2.1 r.2.2.2.1 r.2.2.2.2
/-- the state: the text, its length, the room, the acts' rooms, how many, what is kept, the seed -/
abbrev zSt : Type := (Nat → Nat) × Nat × zRo × (Nat → zRo) × Nat × (Nat → Option zRo) × Int64
def zAc (M : zM) (as : Nat → zRo) (s : Nat) : Prop := ∃ o, o < 14 ∧ M.1 4 1 = nI o ∧ M.1 4 2 = nI s ∧ s ≤ 14 ∧ ∀ i, i < s → zHr M (52 + 3 * ((o + i) % 14)) (as i)
def zSl (M : zM) (sl : Nat → Option zRo) : Prop := ∀ k, k < 2 → (sl k = none ∧ M.1 3 k = nI 0) ∨ ∃ q, sl k = some q ∧ M.1 3 k = nI 1 ∧ zHr M (94 + 3 * k) q
def zOkS (r : zRo) (as : Nat → zRo) (s : Nat) (sl : Nat → Option zRo) : Prop := (∀ i, i < s → (as i).1 = r.1) ∧ ∀ k q, k < 2 → sl k = some q → q.1 = r.1
/-- the class's cells hold the state -/
def zCs (M : zM) (σ : zSt) : Prop := zTx M σ.1 σ.2.1 ∧ zHr M 46 σ.2.2.1 ∧ zAc M σ.2.2.2.1 σ.2.2.2.2.1 ∧ zSl M σ.2.2.2.2.2.1 ∧ M.2 0 8 = σ.2.2.2.2.2.2 ∧ zOkS σ.2.2.1 σ.2.2.2.1 σ.2.2.2.2.1 σ.2.2.2.2.2.1
abbrev zfC (M M2 : zM) : Prop := zfr (fun c => c < 32 ∨ 46 ≤ c) M M2
theorem zHr_fr {cs : Nat → Prop} {M N : zM} {a : Nat} {r : zRo} (h : zHr M a r) (hf : zfr cs M N) (h0 : ¬ cs a) (h1 : ¬ cs (a + 1)) (h2 : ¬ cs (a + 2)) : zHr N a r := zRm_fr h hf h0 h1 h2
theorem zHr_eq {M2 M : zM} {a b : Nat} {r : zRo} (h : zEq M2 a M b) (hR : zHr M b r) : zHr M2 a r := zRm_eq h hR
theorem zAc_fr {cs : Nat → Prop} {M N : zM} {as : Nat → zRo} {s : Nat} (h : zAc M as s) (hf : zfr cs M N) (h4 : ¬ cs 4) (hc : ∀ c, 52 ≤ c → c ≤ 93 → ¬ cs c) : zAc N as s := by
  obtain ⟨o, q1, q2, q3, q4, q5⟩ := h
  refine ⟨o, q1, by rw [(hf 4 h4).1]; exact q2, by rw [(hf 4 h4).1]; exact q3, q4, fun i hi => zHr_fr (q5 i hi) hf (hc _ (by omega) (by omega)) (hc _ (by omega) (by omega)) (hc _ (by omega) (by omega))⟩
theorem zSl_fr {cs : Nat → Prop} {M N : zM} {sl : Nat → Option zRo} (h : zSl M sl) (hf : zfr cs M N) (h3 : ¬ cs 3) (hc : ∀ c, 94 ≤ c → c ≤ 99 → ¬ cs c) : zSl N sl := by
  intro k hk
  rcases h k hk with ⟨h1, h2⟩ | ⟨q, h1, h2, h4⟩
  · exact Or.inl ⟨h1, by rw [(hf 3 h3).1]; exact h2⟩
  · exact Or.inr ⟨q, h1, by rw [(hf 3 h3).1]; exact h2, zHr_fr h4 hf (hc _ (by omega) (by omega)) (hc _ (by omega) (by omega)) (hc _ (by omega) (by omega))⟩
/-- one more act ahead of which the room was r -/
def zpush (as : Nat → zRo) (s : Nat) (r : zRo) : (Nat → zRo) × Nat := if s = 14 then (fun i => if i < 13 then as (i + 1) else r, 14) else (va_up as s r, s + 1)
theorem zpush_ok {r : zRo} {as : Nat → zRo} {s : Nat} (hs : s ≤ 14) (h : ∀ i, i < s → (as i).1 = r.1) : ∀ i, i < (zpush as s r).2 → ((zpush as s r).1 i).1 = r.1 := by
  intro i hi
  unfold zpush at *
  by_cases e : s = 14
  · simp only [e, if_true] at hi ⊢
    split
    · exact h (i + 1) (by omega)
    · rfl
  · simp only [e, if_false] at hi ⊢
    unfold va_up
    split
    · rfl
    · exact h i (by omega)
theorem zRoom_r (o i : Nat) : zRoom (52 + 3 * ((o + i) % 14)) := zRoom_b (Nat.mod_lt _ (by decide))
theorem kc_remember {E : zE} (hI : zI E) (M : zM) {r : zRo} {as : Nat → zRo} {s : Nat} (hr : zHr M 46 r) (ha : zAc M as s) : zK E yX0_remember (.code yX0_remember cX0_remember 2 none) (zrm 2 47) [.ref (E.2.2.2 4), .ref (E.2.2.2 46)] M (zpv (fun M2 => zAc M2 (zpush as s r).1 (zpush as s r).2 ∧ zfr (fun c => c = 4 ∨ 52 ≤ c ∧ c ≤ 93) M M2)) := by
  obtain ⟨o, q1, q2, q3, q4, q5⟩ := ha
  by_cases e : s = 14
  · subst e
    refine zK_mono (k_X0_remember14 hI M q2 q3 q1) ?_
    rintro _ M2 ⟨rfl, h1, h2, h3, h4⟩
    refine ⟨rfl, ⟨(o + 1) % 14, Nat.mod_lt _ (by decide), h1, h2, Nat.le_refl _, fun i hi => ?_⟩, zfr_w h4 (fun c h => by omega)⟩
    have hi14 : i < 14 := hi
    show zHr M2 (52 + 3 * (((o + 1) % 14 + i) % 14)) (if i < 13 then as (i + 1) else r)
    by_cases e2 : i < 13
    · rw [if_pos e2, show ((o + 1) % 14 + i) % 14 = (o + (i + 1)) % 14 by omega]
      exact zHr_fr (q5 (i + 1) (by omega)) h4 (by omega) (by omega) (by omega)
    · rw [if_neg e2, show i = 13 by omega]
      exact zHr_eq h3 hr
  · refine zK_mono (k_X0_remember hI M q2 q3 q1 (by omega)) ?_
    rintro _ M2 ⟨rfl, h1, h2, h3, h4⟩
    have ez : zpush as s r = (va_up as s r, s + 1) := if_neg e
    rw [ez]
    refine ⟨rfl, ⟨o, q1, h1, h2, by show s + 1 ≤ 14; omega, fun i hi => ?_⟩, zfr_w h4 (fun c h => by omega)⟩
    have hi2 : i < s + 1 := hi
    show zHr M2 (52 + 3 * ((o + i) % 14)) (va_up as s r i)
    by_cases e2 : i = s
    · subst e2
      simp only [va_up, if_true]
      exact zHr_eq h3 hr
    · simp only [va_up, if_neg e2]
      exact zHr_fr (q5 i (by omega)) h4 (by omega) (by omega) (by omega)
theorem kc_takeBack {E : zE} (hI : zI E) (M : zM) {as : Nat → zRo} {s : Nat} (ha : zAc M as (s + 1)) : zK E yX0_takeBack (.code yX0_takeBack cX0_takeBack 2 none) (zrm 2 47) [.ref (E.2.2.2 4), .ref (E.2.2.2 46)] M (zpv (fun M2 => zHr M2 46 (as s) ∧ zAc M2 as s ∧ zfr (fun c => c = 4 ∨ 46 ≤ c ∧ c ≤ 48) M M2)) := by
  obtain ⟨o, q1, q2, q3, q4, q5⟩ := ha
  refine zK_mono (k_X0_takeBack hI M q2 q3 q1 (by omega)) ?_
  rintro _ M2 ⟨rfl, h1, h2, h3, h4⟩
  exact ⟨rfl, zHr_eq h3 (q5 s (by omega)), ⟨o, q1, h1, h2, by omega, fun i hi => zHr_fr (q5 i (by omega)) h4 (by omega) (by omega) (by omega)⟩, h4⟩
def zisR (r : Int32) : Bool := decide (-999 ≤ r ∧ r ≤ 999)
def zcodeB (w c : Nat) : Bool := decide (c < 10 ^ (w + 1)) && (List.range (w + 1)).all (fun k => decide (c / 10 ^ k % 10 ≤ 2))
def zisC (w : Nat) (c : Int32) : Bool := if c < 0 then false else zcodeB w c.toNatClampNeg
theorem zcodeB_iff {w c : Nat} : zcodeB w c = true ↔ zcode w c := by
  unfold zcodeB zcode
  simp only [Bool.and_eq_true, decide_eq_true_eq, List.all_eq_true, List.mem_range]
  exact ⟨fun h => ⟨h.1, fun k hk => h.2 k (by omega)⟩, fun h => ⟨h.1, fun k hk => h.2 k (by omega)⟩⟩
theorem zisC_nI {w c : Nat} (hc : c < 2 ^ 31) : zisC w (nI c) = true ↔ zcode w c := by
  unfold zisC
  rw [if_neg (nI_pos hc), nI_clamp hc]
  exact zcodeB_iff
theorem zisC_ex {w : Nat} {c : Int32} (h : zisC w c = true) : ∃ k, k < 2 ^ 31 ∧ c = nI k ∧ zcode w k := by
  by_cases e : c < 0
  · unfold zisC at h
    rw [if_pos e] at h
    cases h
  · obtain ⟨k, hk, rfl⟩ := nI_of e
    exact ⟨k, hk, rfl, (zisC_nI hk).mp h⟩
theorem zcode_5 {w c : Nat} (hw : w ≤ 4) (h : zcode w c) : c < 100000 := Nat.lt_of_lt_of_le h.1 (Nat.le_trans (Nat.pow_le_pow_right (by decide) (show w + 1 ≤ 5 by omega)) (by decide))
set_option maxHeartbeats 4000000 in
set_option maxRecDepth 100000 in
theorem k_X5_isReading {E : zE} (hI : zI E) (M : zM) (r : Int32) : zK E yX5_isReading (.code yX5_isReading cX5_isReading 1 (some .boolean)) (zrm 0 0) [.int r] M (zpi (fun v M2 => ((zisR r = true ∧ v = nI 1) ∨ (zisR r = false ∧ v = nI 0)) ∧ M2 = M)) := by
  refine zK_of hI (by decide) (Nat.le_of_ble_eq_true rfl) (fun x hx ri rz rl rv => ?_)
  show zJ E x 0 [(0, .int r)] [] M
  refine z_iload_n hx 0 dX5_isReading_0 rfl rfl ?_
  refine z_sipush hx (v := (-999)) dX5_isReading_1 rfl ?_
  refine z_icmp_lt (tgt := 18) hx dX5_isReading_4 (by decide) (fun h4 => ?_) (fun h4 => ?_)
  · skip
    refine z_iconst hx (v := nI 0) dX5_isReading_18 (by decide +kernel) ?_
    exact rz _ _ _ _ rfl (Or.inl rfl) ⟨_, rfl, ⟨Or.inr ⟨decide_eq_false (fun z => by first | exact absurd h4 (Int32.not_lt.mpr z.1) | exact absurd h11 (Int32.not_lt.mpr z.2)), rfl⟩, rfl⟩⟩ dX5_isReading_19
  · skip
    refine z_iload_n hx 0 dX5_isReading_7 rfl rfl ?_
    refine z_sipush hx (v := nI 999) dX5_isReading_8 (by decide +kernel) ?_
    refine z_icmp_gt (tgt := 18) hx dX5_isReading_11 (by decide) (fun h11 => ?_) (fun h11 => ?_)
    · skip
      refine z_iconst hx (v := nI 0) dX5_isReading_18 (by decide +kernel) ?_
      exact rz _ _ _ _ rfl (Or.inl rfl) ⟨_, rfl, ⟨Or.inr ⟨decide_eq_false (fun z => by first | exact absurd h4 (Int32.not_lt.mpr z.1) | exact absurd h11 (Int32.not_lt.mpr z.2)), rfl⟩, rfl⟩⟩ dX5_isReading_19
    · skip
      refine z_iconst hx (v := nI 1) dX5_isReading_14 (by decide +kernel) ?_
      refine z_goto (tgt := 19) hx dX5_isReading_15 (by decide) ?_
      exact rz _ _ _ _ rfl (Or.inr rfl) ⟨_, rfl, ⟨Or.inl ⟨decide_eq_true ⟨Int32.not_lt.mp h4, Int32.not_lt.mp h11⟩, rfl⟩, rfl⟩⟩ dX5_isReading_19
theorem zdiv_0 {c p : Nat} (h : c / 10 ^ p = 0) : c < 10 ^ p := by
  rcases Nat.lt_or_ge c (10 ^ p) with q | q
  · exact q
  · have := Nat.div_pos q (Nat.pos_of_ne_zero (by have := Nat.pow_pos (n := p) (show 0 < 10 by decide); omega))
    omega
set_option maxHeartbeats 4000000 in
set_option maxRecDepth 100000 in
theorem k_X5_isCode {E : zE} (hI : zI E) (M : zM) (c0 : Int32) (w : Nat) (hw4 : w ≤ 4) : zK E yX5_isCode (.code yX5_isCode cX5_isCode 4 (some .boolean)) (zrm 0 0) [.int c0, .int (nI w)] M (zpi (fun v M2 => ((zisC w c0 = true ∧ v = nI 1) ∨ (zisC w c0 = false ∧ v = nI 0)) ∧ M2 = M)) := by
  refine zK_of hI (by decide) (Nat.le_of_ble_eq_true rfl) (fun x hx ri rz rl rv => ?_)
  show zJ E x 0 [(0, .int c0), (1, .int (nI w))] [] M
  by_cases hneg : c0 < 0
  · skip
    refine z_iload_n hx 0 dX5_isCode_0 rfl rfl ?_
    refine z_istore_n hx (lv2 := [(2, .int c0), (0, .int c0), (1, .int (nI w))]) dX5_isCode_1 rfl (by decide) rfl ?_
    refine z_iconst hx (v := nI 0) dX5_isCode_2 (by decide +kernel) ?_
    refine z_istore_n hx (lv2 := [(3, .int (nI 0)), (2, .int c0), (0, .int c0), (1, .int (nI w))]) dX5_isCode_3 rfl (by decide) rfl ?_
    refine z_iload_n hx 0 dX5_isCode_4 rfl rfl ?_
    refine z_iload_n hx 3 dX5_isCode_5 rfl rfl ?_
    refine z_icmp_gt_n (tgt := 34) hx (by omega) (by omega) dX5_isCode_6 (by decide) (fun h6 => ?_) (fun h6 => ?_)
    · skip
      omega
    · skip
      refine z_iload_n hx 1 dX5_isCode_9 rfl rfl ?_
      refine z_if_lt (tgt := 21) hx dX5_isCode_10 (by decide) (fun h10 => ?_) (fun h10 => ?_)
      · skip
        refine z_iconst hx (v := nI 0) dX5_isCode_21 (by decide +kernel) ?_
        exact rz _ _ _ _ rfl (Or.inl rfl) ⟨_, rfl, ⟨Or.inr ⟨by unfold zisC; rw [if_pos hneg], rfl⟩, rfl⟩⟩ dX5_isCode_22
      · skip
        exact absurd hneg h10
  · skip
    obtain ⟨c, hc31, rfl⟩ := nI_of hneg
    have hdv : ∀ k, c / 10 ^ k < 2 ^ 31 := fun k => Nat.lt_of_le_of_lt (Nat.div_le_self _ _) hc31
    refine z_iload_n hx 0 dX5_isCode_0 rfl rfl ?_
    refine z_istore_n hx (lv2 := [(2, .int (nI c)), (0, .int (nI c)), (1, .int (nI w))]) dX5_isCode_1 rfl (by decide) rfl ?_
    refine z_iconst hx (v := nI 0) dX5_isCode_2 (by decide +kernel) ?_
    refine z_istore_n hx (lv2 := [(3, .int (nI 0)), (2, .int (nI c)), (0, .int (nI c)), (1, .int (nI w))]) dX5_isCode_3 rfl (by decide) rfl ?_
    have loop4 : ∀ (fuel4 : Nat) (k : Nat) (_ : k ≤ w + 1) (_ : ∀ j, j < k → c / 10 ^ j % 10 ≤ 2), w + 1 - k < fuel4 → zJ E x 4 [(3, .int (nI k)), (2, .int (nI (c / 10 ^ k))), (0, .int (nI c)), (1, .int (nI w))] [] M := by
      intro fuel4
      induction fuel4 with
      | zero =>
        intros; omega
      | succ fuel4 ih4 =>
        intro k hk hd hfuel4
        refine z_iload_n hx 0 dX5_isCode_4 rfl rfl ?_
        refine z_iload_n hx 3 dX5_isCode_5 rfl rfl ?_
        refine z_icmp_gt_n (tgt := 34) hx (by omega) (by omega) dX5_isCode_6 (by decide) (fun h6 => ?_) (fun h6 => ?_)
        · skip
          have hdk := hdv k
          refine z_iload_n hx 1 dX5_isCode_34 rfl rfl ?_
          refine z_if_ne_n (tgt := 42) hx (by omega) dX5_isCode_35 (by decide) (fun h35 => ?_) (fun h35 => ?_)
          · skip
            refine z_iconst hx (v := nI 0) dX5_isCode_42 (by decide +kernel) ?_
            exact rz _ _ _ _ rfl (Or.inl rfl) ⟨_, rfl, ⟨Or.inr ⟨Bool.eq_false_iff.mpr (fun z => h35 (by rw [show k = w + 1 by omega]; exact Nat.div_eq_of_lt ((zisC_nI hc31).mp z).1)), rfl⟩, rfl⟩⟩ dX5_isCode_43
          · skip
            refine z_iconst hx (v := nI 1) dX5_isCode_38 (by decide +kernel) ?_
            refine z_goto (tgt := 43) hx dX5_isCode_39 (by decide) ?_
            exact rz _ _ _ _ rfl (Or.inr rfl) ⟨_, rfl, ⟨Or.inl ⟨(zisC_nI hc31).mpr ⟨zdiv_0 (by rw [← show k = w + 1 by omega]; exact h35), fun j hj => hd j (by omega)⟩, rfl⟩, rfl⟩⟩ dX5_isCode_43
        · skip
          have hdk := hdv k
          refine z_iload_n hx 1 dX5_isCode_9 rfl rfl ?_
          refine z_if_lt_n (tgt := 21) hx (by omega) dX5_isCode_10 (by decide) ?_
          refine z_iload_n hx 1 dX5_isCode_13 rfl rfl ?_
          refine z_bipush hx (v := nI 10) dX5_isCode_14 (by decide +kernel) ?_
          refine z_irem_n hx (by omega) (by omega) (by omega) dX5_isCode_16 ?_
          refine z_iconst hx (v := nI 2) dX5_isCode_17 (by decide +kernel) ?_
          refine z_icmp_le_n (tgt := 23) hx (by omega) (by omega) dX5_isCode_18 (by decide) (fun h18 => ?_) (fun h18 => ?_)
          · skip
            refine z_iload_n hx 1 dX5_isCode_23 rfl rfl ?_
            refine z_bipush hx (v := nI 10) dX5_isCode_24 (by decide +kernel) ?_
            refine z_idiv_n hx (by omega) (by omega) (by omega) dX5_isCode_26 ?_
            refine z_istore_n hx (lv2 := [(2, .int (nI ((c / 10 ^ k) / 10))), (3, .int (nI k)), (0, .int (nI c)), (1, .int (nI w))]) dX5_isCode_27 rfl (by decide) rfl ?_
            refine z_iinc hx (w := nI (k + 1)) (lv2 := [(3, .int (nI (k + 1))), (2, .int (nI ((c / 10 ^ k) / 10))), (0, .int (nI c)), (1, .int (nI w))]) 1 dX5_isCode_28 rfl (z_inc _) (by decide) rfl ?_
            refine z_goto (tgt := 4) hx dX5_isCode_31 (by decide) ?_
            exact z_to (ih4 (k + 1) (by omega) (fun j hj => by rcases Nat.lt_or_ge j k with z | z; exact hd j z; rw [show j = k by omega]; exact h18) (by omega)) [0, 1, 2, 3] (by rw [Nat.pow_succ, ← Nat.div_div_eq_div_mul]; rfl) rfl
          · skip
            refine z_iconst hx (v := nI 0) dX5_isCode_21 (by decide +kernel) ?_
            exact rz _ _ _ _ rfl (Or.inl rfl) ⟨_, rfl, ⟨Or.inr ⟨Bool.eq_false_iff.mpr (fun z => absurd (((zisC_nI hc31).mp z).2 k (by omega)) (by omega)), rfl⟩, rfl⟩⟩ dX5_isCode_22
    exact z_to (loop4 _ 0 (by omega) (fun j hj => by omega) (Nat.lt_succ_self _)) [0, 1, 2, 3] (by rw [Nat.pow_zero, Nat.div_one]; rfl) rfl
