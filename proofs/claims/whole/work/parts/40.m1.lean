/-! the reference: its pages, its state -/
def zPc (p : Nat) : Prop := 34 ≤ p ∧ p ≤ 37
theorem zIA_p {p : Nat} (h : zPc p) (E : zE) : zIA E p 18 := by
  obtain ⟨h1, h2⟩ := h
  rcases (show p = 34 ∨ p = 35 ∨ p = 36 ∨ p = 37 by omega) with rfl | rfl | rfl | rfl
  · exact zIA_34 E
  · exact zIA_35 E
  · exact zIA_36 E
  · exact zIA_37 E
theorem zPc_34 : zPc 34 := ⟨by decide, by decide⟩
theorem zPc_35 : zPc 35 := ⟨by decide, by decide⟩
theorem zPc_36 : zPc 36 := ⟨by decide, by decide⟩
theorem zPc_37 : zPc 37 := ⟨by decide, by decide⟩
/-- eighteen ints hold a room -/
def zPf (f : Nat → Int32) (r : zRo) : Prop := f 0 = nI r.2.2.1 ∧ f 1 = nI r.2.1 ∧ ∀ t, t < r.2.1 → f (2 + t) = nI (r.2.2.2.1 t) ∧ f (10 + t) = Int32.ofInt (r.2.2.2.2 t)
theorem zPf_cg {f g : Nat → Int32} {r : zRo} (h : zPf f r) (hn : r.2.1 ≤ 8) (e : ∀ k, k < 18 → g k = f k) : zPf g r := ⟨by rw [e 0 (by omega)]; exact h.1, by rw [e 1 (by omega)]; exact h.2.1, fun t ht => ⟨by rw [e _ (by omega)]; exact (h.2.2 t ht).1, by rw [e _ (by omega)]; exact (h.2.2 t ht).2⟩⟩
/-- only cells of cs, and of the reference's own fields only ks, are changed -/
def zfm (cs ks : Nat → Prop) (M M2 : zM) : Prop := zfr (fun c => c = 32 ∨ cs c) M M2 ∧ ∀ k, ¬ ks k → M2.1 32 k = M.1 32 k ∧ M2.2 32 k = M.2 32 k
theorem zfm_rf (cs ks : Nat → Prop) (M : zM) : zfm cs ks M M := ⟨zfr_rf _ _, fun _ _ => ⟨rfl, rfl⟩⟩
theorem zfm_tr {cs ks : Nat → Prop} {M M1 M2 : zM} (h1 : zfm cs ks M M1) (h2 : zfm cs ks M1 M2) : zfm cs ks M M2 := ⟨zfr_tr h1.1 h2.1, fun k hk => ⟨((h2.2 k hk).1).trans (h1.2 k hk).1, ((h2.2 k hk).2).trans (h1.2 k hk).2⟩⟩
theorem zfm_w {cs ks cs2 ks2 : Nat → Prop} {M M1 : zM} (h : zfm cs ks M M1) (h1 : ∀ c, cs c → cs2 c) (h2 : ∀ k, ks k → ks2 k) : zfm cs2 ks2 M M1 := ⟨zfr_w h.1 (fun c z => by rcases z with z | z; exact Or.inl z; exact Or.inr (h1 c z)), fun k hk => h.2 k (fun z => hk (h2 k z))⟩
theorem zfm_fI {cs ks : Nat → Prop} {M : zM} {k : Nat} {v : Int32} (h : ks k) : zfm cs ks M (zputI M 32 k v) := ⟨zfr_putI (Or.inl rfl), fun j hj => ⟨(zg_putI _ _ _ _ _ _).trans (if_neg (fun z => hj (by rw [z.2]; exact h))), rfl⟩⟩
theorem zfm_fJ {cs ks : Nat → Prop} {M : zM} {k : Nat} {v : Int64} (h : ks k) : zfm cs ks M (zputJ M 32 k v) := ⟨zfr_putJ (Or.inl rfl), fun j hj => ⟨rfl, (zg_putJ _ _ _ _ _ _).trans (if_neg (fun z => hj (by rw [z.2]; exact h)))⟩⟩
theorem zfm_cI {cs ks : Nat → Prop} {M : zM} {c k : Nat} {v : Int32} (h : cs c) (hc : ¬ c = 32) : zfm cs ks M (zputI M c k v) := ⟨zfr_putI (Or.inr h), fun j _ => ⟨by rw [zg_putI, if_neg (fun z => hc (Eq.symm z.1))], rfl⟩⟩
theorem zfm_cJ {cs ks : Nat → Prop} {M : zM} {c k : Nat} {v : Int64} (h : cs c) (hc : ¬ c = 32) : zfm cs ks M (zputJ M c k v) := ⟨zfr_putJ (Or.inr h), fun j _ => ⟨rfl, by rw [zg_putJ, if_neg (fun z => hc (Eq.symm z.1))]⟩⟩
theorem zfm_of {cs ks : Nat → Prop} {M M2 : zM} (h : zfr cs M M2) (hc : ¬ cs 32) : zfm cs ks M M2 := ⟨zfr_w h (fun c z => Or.inr z), fun j _ => ⟨by rw [(h 32 hc).1], by rw [(h 32 hc).2]⟩⟩
theorem zfm_c {cs ks : Nat → Prop} {M M2 : zM} (h : zfm cs ks M M2) {c : Nat} (h1 : ¬ c = 32) (h2 : ¬ cs c) : M2.1 c = M.1 c ∧ M2.2 c = M.2 c := h.1 c (by rintro (z | z); exact h1 z; exact h2 z)
/-- the reference's cells hold the state -/
def zMs (M : zM) (σ : zSt) : Prop := (M.1 32 2 = nI σ.2.1 ∧ ∀ k, k < 90 → M.1 33 k = nI (σ.1 k)) ∧ M.1 32 4 = nI σ.2.2.1.1 ∧ zPf (M.1 35) σ.2.2.1 ∧ (M.1 32 11 = nI σ.2.2.2.2.1 ∧ ∀ i, i < σ.2.2.2.2.1 → zPf (fun k => M.1 38 (18 * i + k)) (σ.2.2.2.1 i)) ∧ (∀ k, k < 2 → (σ.2.2.2.2.2.1 k = none ∧ M.1 40 k = nI 0) ∨ ∃ q, σ.2.2.2.2.2.1 k = some q ∧ M.1 40 k = nI 1 ∧ zPf (fun j => M.1 39 (18 * k + j)) q) ∧ M.2 32 14 = σ.2.2.2.2.2.2
/-- what is always so of the state -/
def zSk (σ : zSt) : Prop := zVr σ.2.2.1 ∧ (σ.2.1 ≤ 90 ∧ ∀ k, k < 90 → σ.1 k ≤ 255) ∧ σ.2.2.2.2.1 ≤ 14 ∧ (∀ i, i < σ.2.2.2.2.1 → zVr (σ.2.2.2.1 i) ∧ (σ.2.2.2.1 i).1 = σ.2.2.1.1) ∧ ∀ k q, k < 2 → σ.2.2.2.2.2.1 k = some q → zVr q ∧ q.1 = σ.2.2.1.1
theorem zCs_sk {M : zM} {σ : zSt} (h : zCs M σ) : zSk σ := by
  obtain ⟨hT, hH, hA, hS, hD, hO⟩ := h
  obtain ⟨o, _, _, _, h4, h5⟩ := hA
  refine ⟨zHr_v hH, ⟨hT.2.1, fun k hk => (hT.2.2 k hk).2⟩, h4, fun i hi => ⟨zHr_v (h5 i hi), hO.1 i hi⟩, fun k q hk hq => ⟨?_, hO.2 k q hk hq⟩⟩
  rcases hS k hk with ⟨z1, _⟩ | ⟨q2, z1, _, z3⟩
  · rw [z1] at hq
    cases hq
  · rw [z1] at hq
    cases hq
    exact zHr_v z3
theorem zMs_fr {cs ks : Nat → Prop} {M M2 : zM} {σ : zSt} (h : zMs M σ) (hf : zfm cs ks M M2) (h33 : ¬ cs 33) (h35 : ¬ cs 35) (h38 : ¬ cs 38) (h39 : ¬ cs 39) (h40 : ¬ cs 40) (k2 : ¬ ks 2) (k4 : ¬ ks 4) (k11 : ¬ ks 11) (k14 : ¬ ks 14) : zMs M2 σ := by
  obtain ⟨⟨a1, a2⟩, a3, a4, ⟨a5, a6⟩, a7, a8⟩ := h
  refine ⟨⟨by rw [(hf.2 2 k2).1]; exact a1, ?_⟩, by rw [(hf.2 4 k4).1]; exact a3, ?_, ⟨by rw [(hf.2 11 k11).1]; exact a5, ?_⟩, ?_, by rw [(hf.2 14 k14).2]; exact a8⟩
  · rw [(zfm_c hf (by omega) h33).1]; exact a2
  · rw [(zfm_c hf (by omega) h35).1]; exact a4
  · rw [(zfm_c hf (by omega) h38).1]; exact a6
  · rw [(zfm_c hf (by omega) h39).1, (zfm_c hf (by omega) h40).1]; exact a7
theorem zin_x {x : Int32} {m : Nat} {q : Int64} (hm : m < 2 ^ 31) (hq : q = lN m) : (0 ≤ x.toInt64 ∧ x.toInt64 ≤ q) ↔ ¬ (x < 0 ∨ ¬ x ≤ nI m) := by
  have e0 : (0 : Int64).toInt = 0 := by decide +kernel
  rw [hq, Int64.le_iff_toInt_le, Int64.le_iff_toInt_le, Int32.toInt_toInt64, pk_lT (by omega), e0, Int32.lt_iff_toInt_lt, Int32.le_iff_toInt_le, nI_toInt hm, Int32.toInt_zero]
  omega
theorem zin_r {x : Int32} : ((-999 : Int64) ≤ x.toInt64 ∧ x.toInt64 ≤ 999) ↔ zisR x = true := by
  have e0 : (-999 : Int64).toInt = -999 := by decide +kernel
  have e1 : (999 : Int64).toInt = 999 := by decide +kernel
  have e2 : (-999 : Int32).toInt = -999 := by decide +kernel
  have e3 : (999 : Int32).toInt = 999 := by decide +kernel
  rw [zisR, decide_eq_true_iff, Int64.le_iff_toInt_le, Int64.le_iff_toInt_le, Int32.toInt_toInt64, Int32.le_iff_toInt_le, Int32.le_iff_toInt_le, e0, e1, e2, e3]
theorem znI_m1 : ∀ n, n < 9 → (nI n - nI 1).toInt = (n : Int) - 1 := by decide +kernel
theorem zin_m {x : Int32} {n : Nat} (hn : n ≤ 8) : (0 ≤ x.toInt64 ∧ x.toInt64 ≤ (nI n - nI 1).toInt64) ↔ ¬ (x < 0 ∨ nI n ≤ x) := by
  have e0 : (0 : Int64).toInt = 0 := by decide +kernel
  rw [Int64.le_iff_toInt_le, Int64.le_iff_toInt_le, Int32.toInt_toInt64, Int32.toInt_toInt64, znI_m1 n (by omega), e0, Int32.lt_iff_toInt_lt, Int32.le_iff_toInt_le, nI_toInt (by omega), Int32.toInt_zero]
  omega
theorem znot {a b : Prop} (h : ¬ (a ∨ b)) : ¬ a ∧ ¬ b := ⟨fun z => h (Or.inl z), fun z => h (Or.inr z)⟩
set_option maxHeartbeats 4000000 in
set_option maxRecDepth 100000 in
theorem k_X6_in {E : zE} (hI : zI E) (M : zM) (a l m : Int64) : zK E yX6_in (.code yX6_in cX6_in 6 (some .boolean)) (zrm 0 0) [.long a, .long l, .long m] M (zpi (fun v M2 => (((l ≤ a ∧ a ≤ m) ∧ v = nI 1) ∨ (¬ (l ≤ a ∧ a ≤ m) ∧ v = nI 0)) ∧ M2 = M)) := by
  refine zK_of hI (by decide) (Nat.le_of_ble_eq_true rfl) (fun x hx ri rz rl rv => ?_)
  show zJ E x 0 [(0, .long a), (2, .long l), (4, .long m)] [] M
  refine z_lload_n hx 0 dX6_in_0 rfl rfl ?_
  refine z_lload_n hx 1 dX6_in_1 rfl rfl ?_
  refine z_lcmp hx dX6_in_2 ?_
  refine z_if_lt (tgt := 17) hx dX6_in_3 (by decide) (fun h3 => ?_) (fun h3 => ?_)
  · skip
    refine z_iconst hx (v := nI 0) dX6_in_17 (by decide +kernel) ?_
    exact rz _ _ _ _ rfl (Or.inl rfl) ⟨_, rfl, ⟨Or.inr ⟨fun z => by first | exact absurd ((lg_cmp_lt _ _).mp h3) (Int64.not_lt.mpr z.1) | exact absurd ((lg_cmp_gt _ _).mp h10) (Int64.not_lt.mpr z.2), rfl⟩, rfl⟩⟩ dX6_in_18
  · skip
    refine z_lload_n hx 0 dX6_in_6 rfl rfl ?_
    refine z_lload hx 2 dX6_in_7 rfl ?_
    refine z_lcmp hx dX6_in_9 ?_
    refine z_if_gt (tgt := 17) hx dX6_in_10 (by decide) (fun h10 => ?_) (fun h10 => ?_)
    · skip
      refine z_iconst hx (v := nI 0) dX6_in_17 (by decide +kernel) ?_
      exact rz _ _ _ _ rfl (Or.inl rfl) ⟨_, rfl, ⟨Or.inr ⟨fun z => by first | exact absurd ((lg_cmp_lt _ _).mp h3) (Int64.not_lt.mpr z.1) | exact absurd ((lg_cmp_gt _ _).mp h10) (Int64.not_lt.mpr z.2), rfl⟩, rfl⟩⟩ dX6_in_18
    · skip
      refine z_iconst hx (v := nI 1) dX6_in_13 (by decide +kernel) ?_
      refine z_goto (tgt := 18) hx dX6_in_14 (by decide) ?_
      exact rz _ _ _ _ rfl (Or.inr rfl) ⟨_, rfl, ⟨Or.inl ⟨⟨Int64.not_lt.mp (fun z => h3 ((lg_cmp_lt _ _).mpr z)), Int64.not_lt.mp (fun z => h10 ((lg_cmp_gt _ _).mpr z))⟩, rfl⟩, rfl⟩⟩ dX6_in_18
theorem zhas_n : ∀ s, s < 256 → ∀ k, k < 8 → (nI s >>> (nI k &&& 31)) &&& nI 1 = nI (s / 2 ^ k % 2) := by decide +kernel
def zpk (s : Nat) : Nat → Nat
  | 0 => 0
  | k + 1 => zpk s k + s / 2 ^ k % 2
theorem zpk_8 (s : Nat) : zpk s 8 = zpop s := by simp [zpk, zpop]
set_option maxHeartbeats 4000000 in
set_option maxRecDepth 100000 in
theorem k_X6_has {E : zE} (hI : zI E) (M : zM) (s k : Nat) (hs : s < 256) (hk : k < 8) : zK E yX6_has (.code yX6_has cX6_has 2 (some .boolean)) (zrm 0 0) [.int (nI s), .int (nI k)] M (zpi (fun v M2 => ((s / 2 ^ k % 2 = 1 ∧ v = nI 1) ∨ (¬ s / 2 ^ k % 2 = 1 ∧ v = nI 0)) ∧ M2 = M)) := by
  refine zK_of hI (by decide) (Nat.le_of_ble_eq_true rfl) (fun x hx ri rz rl rv => ?_)
  show zJ E x 0 [(0, .int (nI s)), (1, .int (nI k))] [] M
  refine z_iload_n hx 0 dX6_has_0 rfl rfl ?_
  refine z_iload_n hx 1 dX6_has_1 rfl rfl ?_
  refine z_ishr hx dX6_has_2 ?_
  refine z_iconst hx (v := nI 1) dX6_has_3 (by decide +kernel) ?_
  refine z_iand hx dX6_has_4 ?_
  refine z_eqi (b := nI (s / 2 ^ k % 2)) (zhas_n s hs k hk) ?_
  refine z_iconst hx (v := nI 1) dX6_has_5 (by decide +kernel) ?_
  refine z_icmp_ne_n (tgt := 13) hx (by omega) (by omega) dX6_has_6 (by decide) (fun h6 => ?_) (fun h6 => ?_)
  · skip
    refine z_iconst hx (v := nI 0) dX6_has_13 (by decide +kernel) ?_
    exact rz _ _ _ _ rfl (Or.inl rfl) ⟨_, rfl, ⟨Or.inr ⟨h6, rfl⟩, rfl⟩⟩ dX6_has_14
  · skip
    refine z_iconst hx (v := nI 1) dX6_has_9 (by decide +kernel) ?_
    refine z_goto (tgt := 14) hx dX6_has_10 (by decide) ?_
    exact rz _ _ _ _ rfl (Or.inr rfl) ⟨_, rfl, ⟨Or.inl ⟨h6, rfl⟩, rfl⟩⟩ dX6_has_14
set_option maxHeartbeats 4000000 in
set_option maxRecDepth 100000 in
theorem k_X6_ones {E : zE} (hI : zI E) (M : zM) (s : Nat) (hs : s < 256) : zK E yX6_ones (.code yX6_ones cX6_ones 3 (some .int)) (zrm 0 0) [.int (nI s)] M (zpi (fun v M2 => v = nI (zpop s) ∧ M2 = M)) := by
  refine zK_of hI (by decide) (Nat.le_of_ble_eq_true rfl) (fun x hx ri rz rl rv => ?_)
  show zJ E x 0 [(0, .int (nI s))] [] M
  refine z_iconst hx (v := nI 0) dX6_ones_0 (by decide +kernel) ?_
  refine z_istore_n hx (lv2 := [(1, .int (nI 0)), (0, .int (nI s))]) dX6_ones_1 rfl (by decide) rfl ?_
  refine z_iconst hx (v := nI 0) dX6_ones_2 (by decide +kernel) ?_
  refine z_istore_n hx (lv2 := [(2, .int (nI 0)), (1, .int (nI 0)), (0, .int (nI s))]) dX6_ones_3 rfl (by decide) rfl ?_
  have loop4 : ∀ (fuel4 : Nat) (k : Nat) (_ : k ≤ 8), 8 - k < fuel4 → zJ E x 4 [(2, .int (nI k)), (1, .int (nI (zpk s k))), (0, .int (nI s))] [] M := by
    intro fuel4
    induction fuel4 with
    | zero =>
      intros; omega
    | succ fuel4 ih4 =>
      intro k hk hfuel4
      refine z_iload_n hx 0 dX6_ones_4 rfl rfl ?_
      refine z_bipush hx (v := nI 8) dX6_ones_5 (by decide +kernel) ?_
      refine z_icmp_ge_n (tgt := 24) hx (by omega) (by omega) dX6_ones_7 (by decide) (fun h7 => ?_) (fun h7 => ?_)
      · skip
        refine z_iload_n hx 1 dX6_ones_24 rfl rfl ?_
        exact ri _ _ _ _ rfl ⟨_, rfl, ⟨by rw [show k = 8 by omega, zpk_8], rfl⟩⟩ dX6_ones_25
      · skip
        refine z_iload_n hx 1 dX6_ones_10 rfl rfl ?_
        refine z_iload_n hx 2 dX6_ones_11 rfl rfl ?_
        refine z_iload_n hx 0 dX6_ones_12 rfl rfl ?_
        refine z_ishr hx dX6_ones_13 ?_
        refine z_iconst hx (v := nI 1) dX6_ones_14 (by decide +kernel) ?_
        refine z_iand hx dX6_ones_15 ?_
        refine z_eqi (b := nI (s / 2 ^ k % 2)) (zhas_n s hs k h7) ?_
        refine z_iadd_n hx dX6_ones_16 ?_
        refine z_istore_n hx (lv2 := [(1, .int (nI ((zpk s k) + (s / 2 ^ k % 2)))), (2, .int (nI k)), (0, .int (nI s))]) dX6_ones_17 rfl (by decide) rfl ?_
        refine z_iinc hx (w := nI (k + 1)) (lv2 := [(2, .int (nI (k + 1))), (1, .int (nI ((zpk s k) + (s / 2 ^ k % 2)))), (0, .int (nI s))]) 1 dX6_ones_18 rfl (z_inc _) (by decide) rfl ?_
        refine z_goto (tgt := 4) hx dX6_ones_21 (by decide) ?_
        exact z_to (ih4 (k + 1) (by omega) (by omega)) [0, 1, 2] rfl rfl
  exact z_to (loop4 _ 0 (by omega) (Nat.lt_succ_self _)) [0, 1, 2] rfl rfl
set_option maxHeartbeats 4000000 in
set_option maxRecDepth 100000 in
theorem k_X6_power {E : zE} (hI : zI E) (M : zM) (b e : Nat) (he : e < 100) : zK E yX6_power (.code yX6_power cX6_power 4 (some .int)) (zrm 0 0) [.int (nI b), .int (nI e)] M (zpi (fun v M2 => v = nI (b ^ e) ∧ M2 = M)) := by
  refine zK_of hI (by decide) (Nat.le_of_ble_eq_true rfl) (fun x hx ri rz rl rv => ?_)
  show zJ E x 0 [(0, .int (nI b)), (1, .int (nI e))] [] M
  refine z_iconst hx (v := nI 1) dX6_power_0 (by decide +kernel) ?_
  refine z_istore_n hx (lv2 := [(2, .int (nI 1)), (0, .int (nI b)), (1, .int (nI e))]) dX6_power_1 rfl (by decide) rfl ?_
  refine z_iconst hx (v := nI 0) dX6_power_2 (by decide +kernel) ?_
  refine z_istore_n hx (lv2 := [(3, .int (nI 0)), (2, .int (nI 1)), (0, .int (nI b)), (1, .int (nI e))]) dX6_power_3 rfl (by decide) rfl ?_
  have loop4 : ∀ (fuel4 : Nat) (k : Nat) (_ : k ≤ e), e - k < fuel4 → zJ E x 4 [(3, .int (nI k)), (2, .int (nI (b ^ k))), (0, .int (nI b)), (1, .int (nI e))] [] M := by
    intro fuel4
    induction fuel4 with
    | zero =>
      intros; omega
    | succ fuel4 ih4 =>
      intro k hk hfuel4
      refine z_iload_n hx 0 dX6_power_4 rfl rfl ?_
      refine z_iload_n hx 3 dX6_power_5 rfl rfl ?_
      refine z_icmp_ge_n (tgt := 19) hx (by omega) (by omega) dX6_power_6 (by decide) (fun h6 => ?_) (fun h6 => ?_)
      · skip
        refine z_iload_n hx 1 dX6_power_19 rfl rfl ?_
        exact ri _ _ _ _ rfl ⟨_, rfl, ⟨by rw [show k = e by omega], rfl⟩⟩ dX6_power_20
      · skip
        refine z_iload_n hx 1 dX6_power_9 rfl rfl ?_
        refine z_iload_n hx 2 dX6_power_10 rfl rfl ?_
        refine z_imul_n hx dX6_power_11 ?_
        refine z_istore_n hx (lv2 := [(2, .int (nI ((b ^ k) * b))), (3, .int (nI k)), (0, .int (nI b)), (1, .int (nI e))]) dX6_power_12 rfl (by decide) rfl ?_
        refine z_iinc hx (w := nI (k + 1)) (lv2 := [(3, .int (nI (k + 1))), (2, .int (nI ((b ^ k) * b))), (0, .int (nI b)), (1, .int (nI e))]) 1 dX6_power_13 rfl (z_inc _) (by decide) rfl ?_
        refine z_goto (tgt := 4) hx dX6_power_16 (by decide) ?_
        exact z_to (ih4 (k + 1) (by omega) (by omega)) [0, 1, 2, 3] rfl rfl
  exact z_to (loop4 _ 0 (by omega) (Nat.lt_succ_self _)) [0, 1, 2, 3] rfl rfl
set_option maxHeartbeats 4000000 in
set_option maxRecDepth 100000 in
theorem k_X6_longPower {E : zE} (hI : zI E) (M : zM) (b e : Nat) (he : e < 100) : zK E yX6_longPower (.code yX6_longPower cX6_longPower 6 (some .long)) (zrm 0 0) [.long (lN b), .int (nI e)] M (zpl (fun v M2 => v = lN (b ^ e) ∧ M2 = M)) := by
  refine zK_of hI (by decide) (Nat.le_of_ble_eq_true rfl) (fun x hx ri rz rl rv => ?_)
  show zJ E x 0 [(0, .long (lN b)), (2, .int (nI e))] [] M
  refine z_lconst hx (v := 1) dX6_longPower_0 rfl ?_
  refine z_lstore_n hx (lv2 := [(3, .long 1), (0, .long (lN b)), (2, .int (nI e))]) dX6_longPower_1 rfl (by decide) rfl ?_
  refine z_iconst hx (v := nI 0) dX6_longPower_2 (by decide +kernel) ?_
  refine z_istore hx (lv2 := [(5, .int (nI 0)), (3, .long 1), (0, .long (lN b)), (2, .int (nI e))]) dX6_longPower_3 (by decide) rfl ?_
  have loop5 : ∀ (fuel5 : Nat) (k : Nat) (_ : k ≤ e), e - k < fuel5 → zJ E x 5 [(5, .int (nI k)), (3, .long (lN (b ^ k))), (0, .long (lN b)), (2, .int (nI e))] [] M := by
    intro fuel5
    induction fuel5 with
    | zero =>
      intros; omega
    | succ fuel5 ih5 =>
      intro k hk hfuel5
      refine z_iload hx 0 dX6_longPower_5 rfl ?_
      refine z_iload_n hx 3 dX6_longPower_7 rfl rfl ?_
      refine z_icmp_ge_n (tgt := 21) hx (by omega) (by omega) dX6_longPower_8 (by decide) (fun h8 => ?_) (fun h8 => ?_)
      · skip
        refine z_lload_n hx 1 dX6_longPower_21 rfl rfl ?_
        exact rl _ _ _ _ rfl ⟨_, rfl, ⟨by rw [show k = e by omega], rfl⟩⟩ dX6_longPower_22
      · skip
        refine z_lload_n hx 1 dX6_longPower_11 rfl rfl ?_
        refine z_lload_n hx 2 dX6_longPower_12 rfl rfl ?_
        refine z_lmul hx dX6_longPower_13 ?_
        refine z_lstore_n hx (lv2 := [(3, .long ((lN (b ^ k)) * (lN b))), (5, .int (nI k)), (0, .long (lN b)), (2, .int (nI e))]) dX6_longPower_14 rfl (by decide) rfl ?_
        refine z_iinc hx (w := nI (k + 1)) (lv2 := [(5, .int (nI (k + 1))), (3, .long ((lN (b ^ k)) * (lN b))), (0, .long (lN b)), (2, .int (nI e))]) 1 dX6_longPower_15 rfl (z_inc _) (by decide) rfl ?_
        refine z_goto (tgt := 5) hx dX6_longPower_18 (by decide) ?_
        exact z_to (ih5 (k + 1) (by omega) (by omega)) [0, 1, 2, 3] (by rw [lN_mul, ← Nat.pow_succ]; rfl) rfl
  exact z_to (loop5 _ 0 (by omega) (Nat.lt_succ_self _)) [0, 1, 2, 3] (by rw [show (1 : Int64) = lN (b ^ 0) from rfl]; rfl) rfl
def zfc (n k : Nat) : Nat := if k ≤ n then zfac (k - 1) else zfac n
set_option maxHeartbeats 4000000 in
set_option maxRecDepth 100000 in
theorem k_X6_factorial {E : zE} (hI : zI E) (M : zM) (n : Nat) (hn : n < 9) : zK E yX6_factorial (.code yX6_factorial cX6_factorial 3 (some .int)) (zrm 0 0) [.int (nI n)] M (zpi (fun v M2 => v = nI (zfac n) ∧ M2 = M)) := by
  refine zK_of hI (by decide) (Nat.le_of_ble_eq_true rfl) (fun x hx ri rz rl rv => ?_)
  show zJ E x 0 [(0, .int (nI n))] [] M
  refine z_iconst hx (v := nI 1) dX6_factorial_0 (by decide +kernel) ?_
  refine z_istore_n hx (lv2 := [(1, .int (nI 1)), (0, .int (nI n))]) dX6_factorial_1 rfl (by decide) rfl ?_
  refine z_iconst hx (v := nI 2) dX6_factorial_2 (by decide +kernel) ?_
  refine z_istore_n hx (lv2 := [(2, .int (nI 2)), (1, .int (nI 1)), (0, .int (nI n))]) dX6_factorial_3 rfl (by decide) rfl ?_
  have loop4 : ∀ (fuel4 : Nat) (k : Nat) (_ : 2 ≤ k) (_ : k ≤ n + 1 ∨ k = 2), n + 2 - k < fuel4 → zJ E x 4 [(2, .int (nI k)), (1, .int (nI (zfac (k - 1)))), (0, .int (nI n))] [] M := by
    intro fuel4
    induction fuel4 with
    | zero =>
      intros; omega
    | succ fuel4 ih4 =>
      intro k hk2 hk hfuel4
      refine z_iload_n hx 0 dX6_factorial_4 rfl rfl ?_
      refine z_iload_n hx 2 dX6_factorial_5 rfl rfl ?_
      refine z_icmp_gt_n (tgt := 19) hx (by omega) (by omega) dX6_factorial_6 (by decide) (fun h6 => ?_) (fun h6 => ?_)
      · skip
        refine z_iload_n hx 1 dX6_factorial_19 rfl rfl ?_
        exact ri _ _ _ _ rfl ⟨_, rfl, ⟨by rcases hk with z | z; rw [show k - 1 = n by omega]; rw [z]; rcases (show n = 0 ∨ n = 1 by omega) with rfl | rfl <;> rfl, rfl⟩⟩ dX6_factorial_20
      · skip
        refine z_iload_n hx 1 dX6_factorial_9 rfl rfl ?_
        refine z_iload_n hx 0 dX6_factorial_10 rfl rfl ?_
        refine z_imul_n hx dX6_factorial_11 ?_
        refine z_istore_n hx (lv2 := [(1, .int (nI ((zfac (k - 1)) * k))), (2, .int (nI k)), (0, .int (nI n))]) dX6_factorial_12 rfl (by decide) rfl ?_
        refine z_iinc hx (w := nI (k + 1)) (lv2 := [(2, .int (nI (k + 1))), (1, .int (nI ((zfac (k - 1)) * k))), (0, .int (nI n))]) 1 dX6_factorial_13 rfl (z_inc _) (by decide) rfl ?_
        refine z_goto (tgt := 4) hx dX6_factorial_16 (by decide) ?_
        exact z_to (ih4 (k + 1) (by omega) (by omega) (by omega)) [0, 1, 2] (by rw [show k + 1 - 1 = (k - 1) + 1 by omega, zfac, Nat.mul_comm, show k - 1 + 1 = k by omega]; rfl) rfl
  exact z_to (loop4 _ 2 (by omega) (Or.inr rfl) (Nat.lt_succ_self _)) [0, 1, 2] rfl rfl
set_option maxHeartbeats 4000000 in
set_option maxRecDepth 100000 in
theorem k_X6_copy {E : zE} (hI : zI E) (M : zM) {p q : Nat} (hp : zPc p) (hq : zPc q) (hpq : ¬ p = q) : zK E yX6_copy (.code yX6_copy cX6_copy 3 none) (zrm 0 0) [.ref (E.2.2.2 p), .ref (E.2.2.2 q)] M (zpv (fun M2 => (∀ j, j < 18 → M2.1 q j = M.1 p j) ∧ zfr (fun c => c = q) M M2)) := by
  refine zK_of hI (by decide) (Nat.le_of_ble_eq_true rfl) (fun x hx ri rz rl rv => ?_)
  show zJ E x 0 [(0, .ref (E.2.2.2 p)), (1, .ref (E.2.2.2 q))] [] M
  have hp2 := id hp
  have hq2 := id hq
  unfold zPc at hp2 hq2
  refine z_iconst hx (v := nI 0) dX6_copy_0 (by decide +kernel) ?_
  refine z_istore_n hx (lv2 := [(2, .int (nI 0)), (0, .ref (E.2.2.2 p)), (1, .ref (E.2.2.2 q))]) dX6_copy_1 rfl (by decide) rfl ?_
  have loop2 : ∀ (fuel2 : Nat) (k : Nat) (N : zM) (_ : k ≤ 18) (_ : zfr (fun c => c = q) M N) (_ : ∀ j, j < k → N.1 q j = M.1 p j), 18 - k < fuel2 → zJ E x 2 [(2, .int (nI k)), (0, .ref (E.2.2.2 p)), (1, .ref (E.2.2.2 q))] [] N := by
    intro fuel2
    induction fuel2 with
    | zero =>
      intros; omega
    | succ fuel2 ih2 =>
      intro k N hk hNf hNz hfuel2
      refine z_iload_n hx 0 dX6_copy_2 rfl rfl ?_
      refine z_bipush hx (v := nI 18) dX6_copy_3 (by decide +kernel) ?_
      refine z_icmp_ge_n (tgt := 20) hx (by omega) (by omega) dX6_copy_5 (by decide) (fun h5 => ?_) (fun h5 => ?_)
      · skip
        exact rv _ _ _ rfl ⟨rfl, ⟨fun j hj => hNz j (by omega), hNf⟩⟩ dX6_copy_20
      · skip
        refine z_aload_n hx 2 dX6_copy_8 rfl rfl ?_
        refine z_iload_n hx 0 dX6_copy_9 rfl rfl ?_
        refine z_aload_n hx 1 dX6_copy_10 rfl rfl ?_
        refine z_iload_n hx 0 dX6_copy_11 rfl rfl ?_
        refine z_iald_n hx (zIA_p hp E) (by omega) dX6_copy_12 ?_
        refine z_iast_n hx (zIA_p hq E) (by omega) dX6_copy_13 ?_
        refine z_iinc hx (w := nI (k + 1)) (lv2 := [(2, .int (nI (k + 1))), (0, .ref (E.2.2.2 p)), (1, .ref (E.2.2.2 q))]) 0 dX6_copy_14 rfl (z_inc _) (by decide) rfl ?_
        refine z_goto (tgt := 2) hx dX6_copy_17 (by decide) ?_
        exact z_to (ih2 (k + 1) (zputI N q k (N.1 p k)) (by omega) (zfr_tr hNf (zfr_putI rfl)) (fun j hj => by
            rw [zg_putI]
            by_cases e : j = k
            · rw [if_pos ⟨rfl, e⟩, e, (hNf p hpq).1]
            · rw [if_neg (fun z => e z.2)]
              exact hNz j (by omega)) (by omega)) [0, 1, 2] rfl rfl
  exact z_to (loop2 _ 0 M (by omega) (zfr_rf _ _) (fun j hj => by omega) (Nat.lt_succ_self _)) [0, 1, 2] rfl rfl
set_option maxHeartbeats 4000000 in
set_option maxRecDepth 100000 in
theorem k_X6_allOf {E : zE} (hI : zI E) (M : zM) {p n : Nat} (hp : zPc p) (hn : M.1 p 1 = nI n) (hn8 : n ≤ 8) : zK E yX6_allOf (.code yX6_allOf cX6_allOf 1 (some .int)) (zrm 0 0) [.ref (E.2.2.2 p)] M (zpi (fun v M2 => v = nI (2 ^ n - 1) ∧ M2 = M)) := by
  refine zK_of hI (by decide) (Nat.le_of_ble_eq_true rfl) (fun x hx ri rz rl rv => ?_)
  show zJ E x 0 [(0, .ref (E.2.2.2 p))] [] M
  have h2 := zp2 hn8
  refine z_iconst hx (v := nI 1) dX6_allOf_0 (by decide +kernel) ?_
  refine z_aload_n hx 0 dX6_allOf_1 rfl rfl ?_
  refine z_iconst hx (v := nI 1) dX6_allOf_2 (by decide +kernel) ?_
  refine z_iald_n hx (zIA_p hp E) (by omega) dX6_allOf_3 ?_
  refine z_eqi (b := nI n) hn ?_
  refine z_ishl hx dX6_allOf_4 ?_
  refine z_eqi (b := nI (2 ^ n)) (zshl1 hn8) ?_
  refine z_iconst hx (v := nI 1) dX6_allOf_5 (by decide +kernel) ?_
  refine z_isub_n hx (by omega) dX6_allOf_6 ?_
  exact ri _ _ _ _ rfl ⟨_, rfl, ⟨rfl, rfl⟩⟩ dX6_allOf_7
set_option maxHeartbeats 4000000 in
set_option maxRecDepth 100000 in
theorem k_X6_noWeighing {E : zE} (hI : zI E) (M : zM) {n : Nat} (hn : M.1 35 1 = nI n) (hn8 : n ≤ 8) (t : Int32) : zK E yX6_noWeighing (.code yX6_noWeighing cX6_noWeighing 2 (some .boolean)) (zrm 1 25) [.ref (E.2.2.2 32), .int t] M (zpi (fun v M2 => ((∃ j, j < n ∧ t = nI j ∧ v = nI 0) ∨ ((t < 0 ∨ nI n ≤ t) ∧ v = nI 1)) ∧ M2 = M)) := by
  refine zK_of hI (by decide) (Nat.le_of_ble_eq_true rfl) (fun x hx ri rz rl rv => ?_)
  show zJ E x 0 [(0, .ref (E.2.2.2 32)), (1, .int t)] [] M
  refine z_iload_n hx 1 dX6_noWeighing_0 rfl rfl ?_
  refine z_i2l hx dX6_noWeighing_1 ?_
  refine z_lconst hx (v := 0) dX6_noWeighing_2 rfl ?_
  refine z_aload_n hx 0 dX6_noWeighing_3 rfl rfl ?_
  refine zg_X6_7 hx zw_583 dX6_noWeighing_4 ?_
  refine z_iconst hx (v := nI 1) dX6_noWeighing_7 (by decide +kernel) ?_
  refine z_iald_n hx (zIA_35 E) (by omega) dX6_noWeighing_8 ?_
  refine z_eqi (b := nI n) hn ?_
  refine z_iconst hx (v := nI 1) dX6_noWeighing_9 (by decide +kernel) ?_
  refine z_isub hx dX6_noWeighing_10 ?_
  refine z_i2l hx dX6_noWeighing_11 ?_
  refine z_callS hx (As := [.long t.toInt64, .long 0, .long (((nI n) - (nI 1)).toInt64)]) (st := []) (k_X6_in hI M t.toInt64 0 (((nI n) - (nI 1)).toInt64)) zw_654 zy_X6_in ⟨rfl, rfl⟩ (by decide) rfl rfl (Nat.le_of_ble_eq_true rfl) dX6_noWeighing_12 ?_
  rintro _ M12 ⟨v12, rfl, q12⟩
  obtain ⟨q12, hmm⟩ := q12
  rw [hmm]
  rw [zin_m hn8] at q12
  rcases q12 with ⟨q12, rfl⟩ | ⟨q12, rfl⟩
  · skip
    show zJ E x 15 _ [.int (nI 1)] _
    refine z_if_ne_n (tgt := 22) hx (by decide) dX6_noWeighing_15 (by decide) (fun _ => ?_) (fun h => absurd h (by decide))
    refine z_iconst hx (v := nI 0) dX6_noWeighing_22 (by decide +kernel) ?_
    exact rz _ _ _ _ rfl (Or.inl rfl) ⟨_, rfl, ⟨Or.inl (by obtain ⟨j, hj, e⟩ := zix (by omega) (znot q12).1 (znot q12).2; exact ⟨j, hj, e, rfl⟩), rfl⟩⟩ dX6_noWeighing_23
  · skip
    show zJ E x 15 _ [.int (nI 0)] _
    refine z_if_ne_n (tgt := 22) hx (by decide) dX6_noWeighing_15 (by decide) (fun h => absurd h (by decide)) (fun _ => ?_)
    refine z_iconst hx (v := nI 1) dX6_noWeighing_18 (by decide +kernel) ?_
    refine z_goto (tgt := 23) hx dX6_noWeighing_19 (by decide) ?_
    exact rz _ _ _ _ rfl (Or.inr rfl) ⟨_, rfl, ⟨Or.inr ⟨Classical.byContradiction (fun z => q12 z), rfl⟩, rfl⟩⟩ dX6_noWeighing_23
abbrev zfN (M M2 : zM) : Prop := zfr (fun c => 32 ≤ c ∧ c ≤ 45) M M2
theorem zMs_t {M : zM} {σ : zSt} (h : zMs M σ) : zMs (zputI M 32 0 (nI 0)) σ := zMs_fr h (zfm_fI (cs := fun _ => False) (ks := fun k => k = 0) rfl) (fun z => z) (fun z => z) (fun z => z) (fun z => z) (fun z => z) (by omega) (by omega) (by omega) (by omega)
theorem zfN_t {M : zM} : zfN M (zputI M 32 0 (nI 0)) := zfr_putI (by omega)
set_option maxHeartbeats 4000000 in
set_option maxRecDepth 100000 in
theorem k_X6_write {E : zE} (hI : zI E) (M : zM) {σ : zSt} (hσ : zMs M σ) (hk : zSk σ) (l : Int32) : zK E yX6_write (.code yX6_write cX6_write 2 (some .int)) (zrm 1 25) [.ref (E.2.2.2 32), .int l] M (zpi (fun v M2 => v = (zop_write σ l).1 ∧ zMs M2 (zop_write σ l).2 ∧ zfN M M2)) := by
  refine zK_of hI (by decide) (Nat.le_of_ble_eq_true rfl) (fun x hx ri rz rl rv => ?_)
  show zJ E x 0 [(0, .ref (E.2.2.2 32)), (1, .int l)] [] M
  obtain ⟨tx, len, ⟨w, n, mm, cd, rd⟩, as, s, sl, sd⟩ := σ
  have hσ2 := hσ
  obtain ⟨⟨hL, hT⟩, hW, hP, ⟨hs, hA⟩, hS, hsd⟩ := hσ
  have hv := hk.1
  have hw4 : 1 ≤ w ∧ w ≤ 4 := hv.1
  have hmm : mm ≤ 99 := hv.2.1
  have hn8 : n ≤ 8 := hv.2.2.1
  have hlen : len ≤ 90 := hk.2.1.1
  have hs14 : s ≤ 14 := hk.2.2.1
  have hL : M.1 32 2 = nI len := hL
  have hW : M.1 32 4 = nI w := hW
  have hs : M.1 32 11 = nI s := hs
  have hsd : M.2 32 14 = sd := hsd
  have hP0 : M.1 35 0 = nI mm := hP.1
  have hP1 : M.1 35 1 = nI n := hP.2.1
  have hP2 : ∀ t, t < n → M.1 35 (2 + t) = nI (cd t) ∧ M.1 35 (10 + t) = Int32.ofInt (rd t) := hP.2.2
  have hT : ∀ k, k < 90 → M.1 33 k = nI (tx k) := hT
  refine z_aload_n hx 0 dX6_write_0 rfl rfl ?_
  refine z_iconst hx (v := nI 0) dX6_write_1 (by decide +kernel) ?_
  refine zp_X6_0 hx zw_576 dX6_write_2 ?_
  refine z_iload_n hx 1 dX6_write_5 rfl rfl ?_
  refine z_i2l hx dX6_write_6 ?_
  refine z_lconst hx (v := 0) dX6_write_7 rfl ?_
  refine z_ldc2 hx zw_653 dX6_write_8 ?_
  refine z_callS hx (As := [.long l.toInt64, .long 0, .long (255)]) (st := []) (k_X6_in hI (zputI M 32 0 (nI 0)) l.toInt64 0 (255)) zw_654 zy_X6_in ⟨rfl, rfl⟩ (by decide) rfl rfl (Nat.le_of_ble_eq_true rfl) dX6_write_11 ?_
  rintro _ M11 ⟨v11, rfl, q11⟩
  obtain ⟨q11, hmm⟩ := q11
  rw [hmm]
  rw [zin_x (m := 255) (by decide) (by decide +kernel)] at q11
  rcases q11 with ⟨q11, rfl⟩ | ⟨q11, rfl⟩
  · skip
    show zJ E x 14 _ [.int (nI 1)] _
    obtain ⟨j, hj, rfl⟩ := zle_nI (by decide) (znot q11).1 (Classical.not_not.mp (znot q11).2)
    refine z_if_ne_n (tgt := 20) hx (by decide) dX6_write_14 (by decide) (fun _ => ?_) (fun h => absurd h (by decide))
    refine z_aload_n hx 0 dX6_write_20 rfl rfl ?_
    refine zg_X6_2 hx zw_578 dX6_write_21 ?_
    refine z_eqi (b := nI len) (zskK (by omega) hL) ?_
    refine z_bipush hx (v := nI 90) dX6_write_24 (by decide +kernel) ?_
    refine z_icmp_ne_n (tgt := 32) hx (by omega) (by omega) dX6_write_26 (by decide) (fun h26 => ?_) (fun h26 => ?_)
    · skip
      refine z_aload_n hx 0 dX6_write_32 rfl rfl ?_
      refine zg_X6_1 hx zw_577 dX6_write_33 ?_
      refine z_aload_n hx 0 dX6_write_36 rfl rfl ?_
      refine zg_X6_2 hx zw_578 dX6_write_37 ?_
      refine z_eqi (b := nI len) (zskK (by omega) hL) ?_
      refine z_iload_n hx 1 dX6_write_40 rfl rfl ?_
      refine z_iast_n hx (zIA_33 E) (by omega) dX6_write_41 ?_
      refine z_aload_n hx 0 dX6_write_42 rfl rfl ?_
      refine z_dup hx dX6_write_43 rfl ?_
      refine zg_X6_2 hx zw_578 dX6_write_44 ?_
      refine z_eqi (b := nI len) (zskI (by omega) (zskK (by omega) hL)) ?_
      refine z_iconst hx (v := nI 1) dX6_write_47 (by decide +kernel) ?_
      refine z_iadd_n hx dX6_write_48 ?_
      refine zp_X6_2 hx zw_578 dX6_write_49 ?_
      refine z_aload_n hx 0 dX6_write_52 rfl rfl ?_
      refine zg_X6_2 hx zw_578 dX6_write_53 ?_
      refine z_eqi (b := nI (len + 1)) zhtI ?_
      exact ri _ _ _ _ rfl ⟨_, rfl, (by
          rw [zop_write, if_neg q11, if_neg (by show ¬ 90 ≤ len; omega), nI_clamp (by omega)]
          refine ⟨rfl, ⟨⟨zhtI, fun k hk => ?_⟩, zskK (by omega) (zskI (by omega) (zskK (by omega) hW)), hP, ⟨zskK (by omega) (zskI (by omega) (zskK (by omega) hs)), hA⟩, hS, hsd⟩, zfr_tr (zfr_tr zfN_t (zfr_putI (by omega))) (zfr_putI (by omega))⟩
          show (zputI (zputI (zputI M 32 0 (nI 0)) 33 len (nI j)) 32 2 (nI (len + 1))).1 33 k = nI (va_up tx len j k)
          unfold va_up
          by_cases e2 : k = len
          · subst e2
            rw [if_pos rfl]
            exact zskI (by omega) zhtI
          · rw [if_neg e2]
            exact zskI (by omega) (zskK e2 (zskI (by omega) (hT k hk))))⟩ dX6_write_56
    · skip
      refine z_bipush hx (v := (-4)) dX6_write_29 rfl ?_
      exact ri _ _ _ _ rfl ⟨_, rfl, (by rw [zop_write, if_neg q11, if_pos (by show 90 ≤ len; omega)]; exact ⟨rfl, zMs_t hσ2, zfN_t⟩)⟩ dX6_write_31
  · skip
    show zJ E x 14 _ [.int (nI 0)] _
    refine z_if_ne_n (tgt := 20) hx (by decide) dX6_write_14 (by decide) (fun h => absurd h (by decide)) (fun _ => ?_)
    refine z_bipush hx (v := (-2)) dX6_write_17 rfl ?_
    exact ri _ _ _ _ rfl ⟨_, rfl, (by rw [zop_write, if_pos (Classical.byContradiction q11)]; exact ⟨rfl, zMs_t hσ2, zfN_t⟩)⟩ dX6_write_19
set_option maxHeartbeats 4000000 in
set_option maxRecDepth 100000 in
theorem k_X6_wipe {E : zE} (hI : zI E) (M : zM) {σ : zSt} (hσ : zMs M σ) (hk : zSk σ)  : zK E yX6_wipe (.code yX6_wipe cX6_wipe 2 (some .int)) (zrm 0 0) [.ref (E.2.2.2 32)] M (zpi (fun v M2 => v = (zop_wipe σ ).1 ∧ zMs M2 (zop_wipe σ ).2 ∧ zfN M M2)) := by
  refine zK_of hI (by decide) (Nat.le_of_ble_eq_true rfl) (fun x hx ri rz rl rv => ?_)
  show zJ E x 0 [(0, .ref (E.2.2.2 32))] [] M
  obtain ⟨tx, len, ⟨w, n, mm, cd, rd⟩, as, s, sl, sd⟩ := σ
  have hσ2 := hσ
  obtain ⟨⟨hL, hT⟩, hW, hP, ⟨hs, hA⟩, hS, hsd⟩ := hσ
  have hv := hk.1
  have hw4 : 1 ≤ w ∧ w ≤ 4 := hv.1
  have hmm : mm ≤ 99 := hv.2.1
  have hn8 : n ≤ 8 := hv.2.2.1
  have hlen : len ≤ 90 := hk.2.1.1
  have hs14 : s ≤ 14 := hk.2.2.1
  have hL : M.1 32 2 = nI len := hL
  have hW : M.1 32 4 = nI w := hW
  have hs : M.1 32 11 = nI s := hs
  have hsd : M.2 32 14 = sd := hsd
  have hP0 : M.1 35 0 = nI mm := hP.1
  have hP1 : M.1 35 1 = nI n := hP.2.1
  have hP2 : ∀ t, t < n → M.1 35 (2 + t) = nI (cd t) ∧ M.1 35 (10 + t) = Int32.ofInt (rd t) := hP.2.2
  have hT : ∀ k, k < 90 → M.1 33 k = nI (tx k) := hT
  refine z_aload_n hx 0 dX6_wipe_0 rfl rfl ?_
  refine z_iconst hx (v := nI 0) dX6_wipe_1 (by decide +kernel) ?_
  refine zp_X6_0 hx zw_576 dX6_wipe_2 ?_
  refine z_aload_n hx 0 dX6_wipe_5 rfl rfl ?_
  refine zg_X6_2 hx zw_578 dX6_wipe_6 ?_
  refine z_eqi (b := nI len) (zskK (by omega) hL) ?_
  refine z_istore_n hx (lv2 := [(1, .int (nI len)), (0, .ref (E.2.2.2 32))]) dX6_wipe_9 rfl (by decide) rfl ?_
  refine z_aload_n hx 1 dX6_wipe_10 rfl rfl ?_
  refine z_iconst hx (v := nI 0) dX6_wipe_11 (by decide +kernel) ?_
  refine zp_X6_2 hx zw_578 dX6_wipe_12 ?_
  refine z_iload_n hx 0 dX6_wipe_15 rfl rfl ?_
  exact ri _ _ _ _ rfl ⟨_, rfl, ⟨rfl, ⟨⟨zhtI, fun k hk => zskI (by omega) (zskI (by omega) (hT k hk))⟩, zskK (by omega) (zskK (by omega) hW), hP, ⟨zskK (by omega) (zskK (by omega) hs), hA⟩, hS, hsd⟩, zfr_tr zfN_t (zfr_putI (by omega))⟩⟩ dX6_wipe_16
set_option maxHeartbeats 4000000 in
set_option maxRecDepth 100000 in
theorem k_X6_code {E : zE} (hI : zI E) (M : zM) {σ : zSt} (hσ : zMs M σ) (hk : zSk σ) (t : Int32) : zK E yX6_code (.code yX6_code cX6_code 2 (some .int)) (zrm 2 46) [.ref (E.2.2.2 32), .int t] M (zpi (fun v M2 => v = zop_code σ t ∧ zMs M2 σ ∧ zfN M M2)) := by
  refine zK_of hI (by decide) (Nat.le_of_ble_eq_true rfl) (fun x hx ri rz rl rv => ?_)
  show zJ E x 0 [(0, .ref (E.2.2.2 32)), (1, .int t)] [] M
  obtain ⟨tx, len, ⟨w, n, mm, cd, rd⟩, as, s, sl, sd⟩ := σ
  have hσ2 := hσ
  obtain ⟨⟨hL, hT⟩, hW, hP, ⟨hs, hA⟩, hS, hsd⟩ := hσ
  have hv := hk.1
  have hw4 : 1 ≤ w ∧ w ≤ 4 := hv.1
  have hmm : mm ≤ 99 := hv.2.1
  have hn8 : n ≤ 8 := hv.2.2.1
  have hlen : len ≤ 90 := hk.2.1.1
  have hs14 : s ≤ 14 := hk.2.2.1
  have hL : M.1 32 2 = nI len := hL
  have hW : M.1 32 4 = nI w := hW
  have hs : M.1 32 11 = nI s := hs
  have hsd : M.2 32 14 = sd := hsd
  have hP0 : M.1 35 0 = nI mm := hP.1
  have hP1 : M.1 35 1 = nI n := hP.2.1
  have hP2 : ∀ t, t < n → M.1 35 (2 + t) = nI (cd t) ∧ M.1 35 (10 + t) = Int32.ofInt (rd t) := hP.2.2
  have hT : ∀ k, k < 90 → M.1 33 k = nI (tx k) := hT
  refine z_aload_n hx 0 dX6_code_0 rfl rfl ?_
  refine z_iconst hx (v := nI 0) dX6_code_1 (by decide +kernel) ?_
  refine zp_X6_0 hx zw_576 dX6_code_2 ?_
  refine z_aload_n hx 0 dX6_code_5 rfl rfl ?_
  refine z_iload_n hx 1 dX6_code_6 rfl rfl ?_
  refine z_callV hx (As := [.int t]) (st := []) (k_X6_noWeighing hI (zputI M 32 0 (nI 0)) (n := n) (zskI (by omega) hP1) hn8 t) zw_696 zy_X6_noWeighing ⟨rfl, rfl⟩ (by decide) (zOB_X6 E) rfl rfl rfl rfl (Nat.le_of_ble_eq_true rfl) dX6_code_7 ?_
  rintro _ M7 ⟨v7, rfl, q7⟩
  obtain ⟨q7, hmm⟩ := q7
  rw [hmm]
  rcases q7 with ⟨j, hj, rfl, rfl⟩ | ⟨q7, rfl⟩
  · skip
    show zJ E x 10 _ [.int (nI 0)] _
    refine z_if_eq_n (tgt := 17) hx (by decide) dX6_code_10 (by decide) (fun _ => ?_) (fun h => absurd h (by decide))
    refine z_aload_n hx 0 dX6_code_17 rfl rfl ?_
    refine zg_X6_7 hx zw_583 dX6_code_18 ?_
    refine z_iconst hx (v := nI 2) dX6_code_21 (by decide +kernel) ?_
    refine z_iload_n hx 1 dX6_code_22 rfl rfl ?_
    refine z_iadd_n hx dX6_code_23 ?_
    refine z_iald_n hx (zIA_35 E) (by omega) dX6_code_24 ?_
    refine z_eqi (b := nI (cd j)) (zskI (by omega) (hP2 j (by omega)).1) ?_
    exact ri _ _ _ _ rfl ⟨_, rfl, ⟨by rw [zop_code, if_neg (zin_n hj hn8), nI_clamp (by omega)], zMs_t hσ2, zfN_t⟩⟩ dX6_code_25
  · skip
    show zJ E x 10 _ [.int (nI 1)] _
    refine z_if_eq_n (tgt := 17) hx (by decide) dX6_code_10 (by decide) (fun h => absurd h (by decide)) (fun _ => ?_)
    refine z_iconst hx (v := (-1)) dX6_code_13 rfl ?_
    refine z_goto (tgt := 25) hx dX6_code_14 (by decide) ?_
    exact ri _ _ _ _ rfl ⟨_, rfl, ⟨by rw [zop_code, if_pos q7], zMs_t hσ2, zfN_t⟩⟩ dX6_code_25
set_option maxHeartbeats 4000000 in
set_option maxRecDepth 100000 in
theorem k_X6_reading {E : zE} (hI : zI E) (M : zM) {σ : zSt} (hσ : zMs M σ) (hk : zSk σ) (t : Int32) : zK E yX6_reading (.code yX6_reading cX6_reading 2 (some .int)) (zrm 2 46) [.ref (E.2.2.2 32), .int t] M (zpi (fun v M2 => v = zop_reading σ t ∧ zMs M2 σ ∧ zfN M M2)) := by
  refine zK_of hI (by decide) (Nat.le_of_ble_eq_true rfl) (fun x hx ri rz rl rv => ?_)
  show zJ E x 0 [(0, .ref (E.2.2.2 32)), (1, .int t)] [] M
  obtain ⟨tx, len, ⟨w, n, mm, cd, rd⟩, as, s, sl, sd⟩ := σ
  have hσ2 := hσ
  obtain ⟨⟨hL, hT⟩, hW, hP, ⟨hs, hA⟩, hS, hsd⟩ := hσ
  have hv := hk.1
  have hw4 : 1 ≤ w ∧ w ≤ 4 := hv.1
  have hmm : mm ≤ 99 := hv.2.1
  have hn8 : n ≤ 8 := hv.2.2.1
  have hlen : len ≤ 90 := hk.2.1.1
  have hs14 : s ≤ 14 := hk.2.2.1
  have hL : M.1 32 2 = nI len := hL
  have hW : M.1 32 4 = nI w := hW
  have hs : M.1 32 11 = nI s := hs
  have hsd : M.2 32 14 = sd := hsd
  have hP0 : M.1 35 0 = nI mm := hP.1
  have hP1 : M.1 35 1 = nI n := hP.2.1
  have hP2 : ∀ t, t < n → M.1 35 (2 + t) = nI (cd t) ∧ M.1 35 (10 + t) = Int32.ofInt (rd t) := hP.2.2
  have hT : ∀ k, k < 90 → M.1 33 k = nI (tx k) := hT
  refine z_aload_n hx 0 dX6_reading_0 rfl rfl ?_
  refine z_iconst hx (v := nI 0) dX6_reading_1 (by decide +kernel) ?_
  refine zp_X6_0 hx zw_576 dX6_reading_2 ?_
  refine z_aload_n hx 0 dX6_reading_5 rfl rfl ?_
  refine z_iload_n hx 1 dX6_reading_6 rfl rfl ?_
  refine z_callV hx (As := [.int t]) (st := []) (k_X6_noWeighing hI (zputI M 32 0 (nI 0)) (n := n) (zskI (by omega) hP1) hn8 t) zw_696 zy_X6_noWeighing ⟨rfl, rfl⟩ (by decide) (zOB_X6 E) rfl rfl rfl rfl (Nat.le_of_ble_eq_true rfl) dX6_reading_7 ?_
  rintro _ M7 ⟨v7, rfl, q7⟩
  obtain ⟨q7, hmm⟩ := q7
  rw [hmm]
  rcases q7 with ⟨j, hj, rfl, rfl⟩ | ⟨q7, rfl⟩
  · skip
    show zJ E x 10 _ [.int (nI 0)] _
    refine z_if_eq_n (tgt := 17) hx (by decide) dX6_reading_10 (by decide) (fun _ => ?_) (fun h => absurd h (by decide))
    refine z_aload_n hx 0 dX6_reading_17 rfl rfl ?_
    refine zg_X6_7 hx zw_583 dX6_reading_18 ?_
    refine z_bipush hx (v := nI 10) dX6_reading_21 (by decide +kernel) ?_
    refine z_iload_n hx 1 dX6_reading_23 rfl rfl ?_
    refine z_iadd_n hx dX6_reading_24 ?_
    refine z_iald_n hx (zIA_35 E) (by omega) dX6_reading_25 ?_
    refine z_eqi (b := Int32.ofInt (rd j)) (zskI (by omega) (hP2 j (by omega)).2) ?_
    refine z_sipush hx (v := nI 1000) dX6_reading_26 (by decide +kernel) ?_
    refine z_iadd hx dX6_reading_29 ?_
    exact ri _ _ _ _ rfl ⟨_, rfl, ⟨by rw [zop_reading, if_neg (zin_n hj hn8), nI_clamp (by omega)], zMs_t hσ2, zfN_t⟩⟩ dX6_reading_30
  · skip
    show zJ E x 10 _ [.int (nI 1)] _
    refine z_if_eq_n (tgt := 17) hx (by decide) dX6_reading_10 (by decide) (fun h => absurd h (by decide)) (fun _ => ?_)
    refine z_iconst hx (v := (-1)) dX6_reading_13 rfl ?_
    refine z_goto (tgt := 30) hx dX6_reading_14 (by decide) ?_
    exact ri _ _ _ _ rfl ⟨_, rfl, ⟨by rw [zop_reading, if_pos q7], zMs_t hσ2, zfN_t⟩⟩ dX6_reading_30
set_option maxHeartbeats 4000000 in
set_option maxRecDepth 100000 in
theorem k_X6_seed {E : zE} (hI : zI E) (M : zM) {σ : zSt} (hσ : zMs M σ) (hk : zSk σ) (z : Int64) : zK E yX6_seed (.code yX6_seed cX6_seed 5 (some .long)) (zrm 0 0) [.ref (E.2.2.2 32), .long z] M (zpl (fun v M2 => v = (zop_seed σ z).1 ∧ zMs M2 (zop_seed σ z).2 ∧ zfN M M2)) := by
  refine zK_of hI (by decide) (Nat.le_of_ble_eq_true rfl) (fun x hx ri rz rl rv => ?_)
  show zJ E x 0 [(0, .ref (E.2.2.2 32)), (1, .long z)] [] M
  obtain ⟨tx, len, ⟨w, n, mm, cd, rd⟩, as, s, sl, sd⟩ := σ
  have hσ2 := hσ
  obtain ⟨⟨hL, hT⟩, hW, hP, ⟨hs, hA⟩, hS, hsd⟩ := hσ
  have hv := hk.1
  have hw4 : 1 ≤ w ∧ w ≤ 4 := hv.1
  have hmm : mm ≤ 99 := hv.2.1
  have hn8 : n ≤ 8 := hv.2.2.1
  have hlen : len ≤ 90 := hk.2.1.1
  have hs14 : s ≤ 14 := hk.2.2.1
  have hL : M.1 32 2 = nI len := hL
  have hW : M.1 32 4 = nI w := hW
  have hs : M.1 32 11 = nI s := hs
  have hsd : M.2 32 14 = sd := hsd
  have hP0 : M.1 35 0 = nI mm := hP.1
  have hP1 : M.1 35 1 = nI n := hP.2.1
  have hP2 : ∀ t, t < n → M.1 35 (2 + t) = nI (cd t) ∧ M.1 35 (10 + t) = Int32.ofInt (rd t) := hP.2.2
  have hT : ∀ k, k < 90 → M.1 33 k = nI (tx k) := hT
  refine z_aload_n hx 0 dX6_seed_0 rfl rfl ?_
  refine z_iconst hx (v := nI 0) dX6_seed_1 (by decide +kernel) ?_
  refine zp_X6_0 hx zw_576 dX6_seed_2 ?_
  refine z_aload_n hx 0 dX6_seed_5 rfl rfl ?_
  refine zg_X6_14 hx zw_590 dX6_seed_6 ?_
  refine z_eql (b := sd) (zskIJ hsd) ?_
  refine z_lstore_n hx (lv2 := [(3, .long sd), (0, .ref (E.2.2.2 32)), (1, .long z)]) dX6_seed_9 rfl (by decide) rfl ?_
  refine z_aload_n hx 1 dX6_seed_10 rfl rfl ?_
  refine z_lload_n hx 2 dX6_seed_11 rfl rfl ?_
  refine zp_X6_14 hx zw_590 dX6_seed_12 ?_
  refine z_lload_n hx 0 dX6_seed_15 rfl rfl ?_
  exact rl _ _ _ _ rfl ⟨_, rfl, ⟨rfl, ⟨⟨zskJI (zskK (by omega) hL), hT⟩, zskJI (zskK (by omega) hW), hP, ⟨zskJI (zskK (by omega) hs), hA⟩, hS, zhtJ⟩, zfr_tr zfN_t (zfr_putJ (by omega))⟩⟩ dX6_seed_16
set_option maxHeartbeats 4000000 in
set_option maxRecDepth 100000 in
theorem k_X6_count {E : zE} (hI : zI E) (M : zM) {σ : zSt} (hσ : zMs M σ) (hk : zSk σ) (t : Int32) : zK E yX6_count (.code yX6_count cX6_count 2 (some .int)) (zrm 0 0) [.ref (E.2.2.2 32), .int t] M (zpi (fun v M2 => v = zop_count σ t ∧ zMs M2 σ ∧ zfN M M2)) := by
  refine zK_of hI (by decide) (Nat.le_of_ble_eq_true rfl) (fun x hx ri rz rl rv => ?_)
  show zJ E x 0 [(0, .ref (E.2.2.2 32)), (1, .int t)] [] M
  obtain ⟨tx, len, ⟨w, n, mm, cd, rd⟩, as, s, sl, sd⟩ := σ
  have hσ2 := hσ
  obtain ⟨⟨hL, hT⟩, hW, hP, ⟨hs, hA⟩, hS, hsd⟩ := hσ
  have hv := hk.1
  have hw4 : 1 ≤ w ∧ w ≤ 4 := hv.1
  have hmm : mm ≤ 99 := hv.2.1
  have hn8 : n ≤ 8 := hv.2.2.1
  have hlen : len ≤ 90 := hk.2.1.1
  have hs14 : s ≤ 14 := hk.2.2.1
  have hL : M.1 32 2 = nI len := hL
  have hW : M.1 32 4 = nI w := hW
  have hs : M.1 32 11 = nI s := hs
  have hsd : M.2 32 14 = sd := hsd
  have hP0 : M.1 35 0 = nI mm := hP.1
  have hP1 : M.1 35 1 = nI n := hP.2.1
  have hP2 : ∀ t, t < n → M.1 35 (2 + t) = nI (cd t) ∧ M.1 35 (10 + t) = Int32.ofInt (rd t) := hP.2.2
  have hT : ∀ k, k < 90 → M.1 33 k = nI (tx k) := hT
  refine z_aload_n hx 0 dX6_count_0 rfl rfl ?_
  refine z_iconst hx (v := nI 0) dX6_count_1 (by decide +kernel) ?_
  refine zp_X6_0 hx zw_576 dX6_count_2 ?_
  refine z_iload_n hx 1 dX6_count_5 rfl rfl ?_
  by_cases hsw : t.toInt < 0 ∨ 4 < t.toInt
  · skip
    refine z_tableOut (tgt := 69) hx dX6_count_6 hsw (by decide) ?_
    refine z_bipush hx (v := (-2)) dX6_count_69 rfl ?_
    exact ri _ _ _ _ rfl ⟨_, rfl, ⟨by unfold zop_count; (repeat (first | rw [if_pos (by omega)] | rw [if_neg (by omega)])), zMs_t hσ2, zfN_t⟩⟩ dX6_count_71
  by_cases hs0 : t.toInt = 0
  · skip
    refine z_tableIn (off := 34) (tgt := 40) hx dX6_count_6 (by omega) (by omega) (by rw [hs0]; rfl) (by decide) ?_
    refine z_aload_n hx 0 dX6_count_40 rfl rfl ?_
    refine zg_X6_2 hx zw_578 dX6_count_41 ?_
    refine z_eqi (b := nI len) (zskK (by omega) hL) ?_
    exact ri _ _ _ _ rfl ⟨_, rfl, ⟨by unfold zop_count; (repeat (first | rw [if_pos (by omega)] | rw [if_neg (by omega)])), zMs_t hσ2, zfN_t⟩⟩ dX6_count_44
  by_cases hs1 : t.toInt = 1
  · skip
    refine z_tableIn (off := 39) (tgt := 45) hx dX6_count_6 (by omega) (by omega) (by rw [hs1]; rfl) (by decide) ?_
    refine z_aload_n hx 0 dX6_count_45 rfl rfl ?_
    refine zg_X6_4 hx zw_580 dX6_count_46 ?_
    refine z_eqi (b := nI w) (zskK (by omega) hW) ?_
    exact ri _ _ _ _ rfl ⟨_, rfl, ⟨by unfold zop_count; (repeat (first | rw [if_pos (by omega)] | rw [if_neg (by omega)])), zMs_t hσ2, zfN_t⟩⟩ dX6_count_49
  by_cases hs2 : t.toInt = 2
  · skip
    refine z_tableIn (off := 44) (tgt := 50) hx dX6_count_6 (by omega) (by omega) (by rw [hs2]; rfl) (by decide) ?_
    refine z_aload_n hx 0 dX6_count_50 rfl rfl ?_
    refine zg_X6_7 hx zw_583 dX6_count_51 ?_
    refine z_iconst hx (v := nI 0) dX6_count_54 (by decide +kernel) ?_
    refine z_iald_n hx (zIA_35 E) (by omega) dX6_count_55 ?_
    refine z_eqi (b := nI mm) (zskI (by omega) hP0) ?_
    exact ri _ _ _ _ rfl ⟨_, rfl, ⟨by unfold zop_count; (repeat (first | rw [if_pos (by omega)] | rw [if_neg (by omega)])), zMs_t hσ2, zfN_t⟩⟩ dX6_count_56
  by_cases hs3 : t.toInt = 3
  · skip
    refine z_tableIn (off := 51) (tgt := 57) hx dX6_count_6 (by omega) (by omega) (by rw [hs3]; rfl) (by decide) ?_
    refine z_aload_n hx 0 dX6_count_57 rfl rfl ?_
    refine zg_X6_7 hx zw_583 dX6_count_58 ?_
    refine z_iconst hx (v := nI 1) dX6_count_61 (by decide +kernel) ?_
    refine z_iald_n hx (zIA_35 E) (by omega) dX6_count_62 ?_
    refine z_eqi (b := nI n) (zskI (by omega) hP1) ?_
    exact ri _ _ _ _ rfl ⟨_, rfl, ⟨by unfold zop_count; (repeat (first | rw [if_pos (by omega)] | rw [if_neg (by omega)])), zMs_t hσ2, zfN_t⟩⟩ dX6_count_63
  have hs4 : t.toInt = 4 := by omega
  · skip
    refine z_tableIn (off := 58) (tgt := 64) hx dX6_count_6 (by omega) (by omega) (by rw [hs4]; rfl) (by decide) ?_
    refine z_aload_n hx 0 dX6_count_64 rfl rfl ?_
    refine zg_X6_11 hx zw_587 dX6_count_65 ?_
    refine z_eqi (b := nI s) (zskK (by omega) hs) ?_
    exact ri _ _ _ _ rfl ⟨_, rfl, ⟨by unfold zop_count; (repeat (first | rw [if_pos (by omega)] | rw [if_neg (by omega)])), zMs_t hσ2, zfN_t⟩⟩ dX6_count_68
