/-- the best is the least of all -/
theorem zbest_min {q : Nat → Option (Int × Int)} (hp : ∀ s a b, q s = some (a, b) → 0 < b) : ∀ {t : Nat}, (zbest q t = none → ∀ s, s < t → q s = none) ∧ ∀ i x0 y0, zbest q t = some (i, x0, y0) → ∀ s a b, s < t → q s = some (a, b) → ¬ a * y0 < x0 * b
  | 0 => ⟨fun _ s hs => absurd hs (Nat.not_lt_zero _), fun _ _ _ h => by cases h⟩
  | t + 1 => by
    obtain ⟨h1, h2⟩ := zbest_min hp (t := t)
    cases e : q t with
    | none =>
      rw [zbest_no e]
      refine ⟨fun h s hs => ?_, fun i x0 y0 h s a b hs hq => ?_⟩
      · by_cases z : s = t
        · rw [z]; exact e
        · exact h1 h s (by omega)
      · by_cases z : s = t
        · rw [z, e] at hq
          cases hq
        · exact h2 i x0 y0 h s a b (by omega) hq
    | some o =>
      obtain ⟨a1, b1⟩ := o
      have hb1 := hp t a1 b1 e
      cases f : zbest q t with
      | none =>
        rw [zbest_first e f]
        refine ⟨fun h => (by cases h), fun i x0 y0 h s a b hs hq => ?_⟩
        cases h
        by_cases z : s = t
        · rw [z, e] at hq
          cases hq
          omega
        · rw [h1 f s (by omega)] at hq
          cases hq
      | some o2 =>
        obtain ⟨i2, x2, y2⟩ := o2
        have hy2 := hp i2 x2 y2 (zbest_mem f).2
        by_cases c : a1 * y2 < x2 * b1
        · rw [zbest_yes e f c]
          refine ⟨fun h => (by cases h), fun i x0 y0 h s a b hs hq => ?_⟩
          cases h
          by_cases z : s = t
          · rw [z, e] at hq
            cases hq
            omega
          · have h3 := h2 i2 x2 y2 f s a b (by omega) hq
            have hb := hp s a b hq
            intro h4
            have e1 : a * b1 * y2 < a1 * b * y2 := Int.mul_lt_mul_of_pos_right h4 hy2
            have e2 : a1 * y2 * b < x2 * b1 * b := Int.mul_lt_mul_of_pos_right c hb
            have e3 : x2 * b * b1 ≤ a * y2 * b1 := Int.mul_le_mul_of_nonneg_right (by omega) (by omega)
            have f1 : a * b1 * y2 = a * y2 * b1 := by grind
            have f2 : a1 * b * y2 = a1 * y2 * b := by grind
            have f3 : x2 * b1 * b = x2 * b * b1 := by grind
            omega
        · rw [zbest_nay e f c]
          refine ⟨fun h => (by cases h), fun i x0 y0 h s a b hs hq => ?_⟩
          cases h
          by_cases z : s = t
          · rw [z, e] at hq
            cases hq
            exact c
          · exact h2 i2 x2 y2 f s a b (by omega) hq
theorem zbest_keep {q : Nat → Option (Int × Int)} (hp : ∀ s a b, q s = some (a, b) → 0 < b) {m : Nat} (hm : ∀ t, m ≤ t → ∃ s, s < m ∧ q t = q s) : ∀ k, zbest q (m + k) = zbest q m
  | 0 => rfl
  | k + 1 => by
    have ih := zbest_keep hp hm k
    obtain ⟨s, hs, hq⟩ := hm (m + k) (by omega)
    rw [← Nat.add_assoc]
    obtain ⟨h1, h2⟩ := zbest_min hp (t := m + k)
    cases e : q (m + k) with
    | none => rw [zbest_no e, ih]
    | some o =>
      obtain ⟨a, b⟩ := o
      cases f : zbest q (m + k) with
      | none =>
        have := h1 f s (by omega)
        rw [← hq, e] at this
        cases this
      | some o2 =>
        obtain ⟨i, x2, y2⟩ := o2
        rw [zbest_nay e f (h2 i x2 y2 f s a b (by omega) (by rw [← hq]; exact e)), ← ih, f]
/-- only what lies on the weights' pans counts for spreads -/
theorem zcn_dg (k : Nat) (i j : Nat) (h : j < i) : zcn k i / 10 ^ j % 10 = k / 3 ^ j % 3 := by
  induction i with
  | zero => omega
  | succ i ih =>
    rw [zcn]
    by_cases e : j = i
    · subst e
      rw [Nat.add_mul_div_right _ _ (Nat.pow_pos (by decide)), Nat.div_eq_of_lt (zcn_lt k j), Nat.zero_add]
      have := Nat.mod_lt (k / 3 ^ j) (show 0 < 3 by decide)
      exact Nat.mod_eq_of_lt (by omega)
    · have e2 : k / 3 ^ i % 3 * 10 ^ i = 10 ^ j * (10 * (k / 3 ^ i % 3 * 10 ^ (i - j - 1))) := by
        rw [show i = j + (1 + (i - j - 1)) by omega, Nat.pow_add, Nat.pow_add, Nat.pow_one, show j + (1 + (i - j - 1)) - j - 1 = i - j - 1 by omega]
        generalize k / 3 ^ (j + (1 + (i - j - 1))) % 3 = z
        grind
      rw [e2, Nat.add_mul_div_left _ _ (Nat.pow_pos (by decide)), Nat.add_mul_mod_self_left]
      exact ih (by omega)
theorem zdg3 {k w j : Nat} (h : j < w) : k / 3 ^ j % 3 = k % 3 ^ w / 3 ^ j % 3 := by
  have e : 3 ^ w = 3 ^ j * 3 ^ (w - j) := by rw [← Nat.pow_add]; congr 1; omega
  rw [e, Nat.mod_mul_right_div_self, show w - j = (w - j - 1) + 1 by omega, Nat.pow_succ, Nat.mul_comm, Nat.mod_mul_right_mod]
theorem zLn_cd {w mm : Nat} {d : Bool} {c c2 : Nat} {r : Int} {t : Nat} (h : ∀ j, j < w → c / 10 ^ j % 10 = c2 / 10 ^ j % 10) {p : Nat} (hp : p < zunk w d) : zLn w mm d c r t p = zLn w mm d c2 r t p := by
  unfold zLn zdig
  by_cases e : p < w
  · rw [if_pos e, if_pos e, h _ (by omega)]
  · rw [if_neg e, if_neg e]
    have e2 : d = true ∧ p = w := by
      unfold zunk at hp
      cases d
      · simp at hp; omega
      · simp at hp; exact ⟨rfl, by omega⟩
    rw [if_pos e2, if_pos e2]
theorem zqt_cd {r : zRo} {d : Bool} {c c2 : Nat} (h : ∀ j, j < r.1 → c / 10 ^ j % 10 = c2 / 10 ^ j % 10) : zqt (zmore r c) d = zqt (zmore r c2) d := by
  have hG : ∀ p q, p < zunk r.1 d → q < zunk r.1 d → zGm (zmore r c) d zall p q = zGm (zmore r c2) d zall p q := fun p q hp hq => by
    rw [zGm_more, zGm_more, zLn_cd h hp, zLn_cd h hq]
  have hD : zdet (zunk r.1 d) (zGm (zmore r c) d zall) = zdet (zunk r.1 d) (zGm (zmore r c2) d zall) := zdet_cg hG
  have hS : zS r.1 (fun k => zMin (zGm (zmore r c) d zall) (zunk r.1 d) k) = zS r.1 (fun k => zMin (zGm (zmore r c2) d zall) (zunk r.1 d) k) := zS_cong (fun k hk => zdet_cg (fun p q hp hq => by
    have a1 := zskp_lt (i := k) hp
    have a2 := zskp_lt (i := k) hq
    exact hG _ _ (by omega) (by omega)))
  show (if 0 < zdet (zunk r.1 d) (zGm (zmore r c) d zall) then some (zS r.1 (fun k => zMin (zGm (zmore r c) d zall) (zunk r.1 d) k), zdet (zunk r.1 d) (zGm (zmore r c) d zall)) else none) = (if 0 < zdet (zunk r.1 d) (zGm (zmore r c2) d zall) then some (zS r.1 (fun k => zMin (zGm (zmore r c2) d zall) (zunk r.1 d) k), zdet (zunk r.1 d) (zGm (zmore r c2) d zall)) else none)
  rw [hD, hS]
def zqm (r : zRo) (d : Bool) (k : Nat) : Option (Int × Int) := zqt (zmore r (zcn k (r.1 + 1))) d
theorem zqm_n (r : zRo) (d : Bool) (k : Nat) : zqm r d k = zqn r d (k % 3 ^ r.1) := zqt_cd (fun j hj => by rw [zcn_dg k _ j (by omega), zcn_dg _ _ j hj, zdg3 hj])
theorem zcode_cn (k w : Nat) : zcode w (zcn k (w + 1)) := ⟨zcn_lt k (w + 1), fun j _ => zcn_dig k (w + 1) j⟩
theorem zqm_g {r : zRo} (hv : zVr r) (h8 : r.2.1 < 8) {d : Bool} {k : Nat} {a b : Int} (h : zqm r d k = some (a, b)) : zab a 6000000000000 ∧ 0 < b ∧ b ≤ 600000 := by
  have h2 := zqt_some zThy (zVr_more hv (zcode_cn k r.1) h8) h
  refine ⟨?_, h2.2⟩
  have := h2.1
  unfold zab at *
  omega
theorem zgdo_m {r : zRo} (hv : zVr r) (h8 : r.2.1 < 8) (d : Bool) (t : Nat) : zgdo (zbest (zqm r d) t) := by
  cases h : zbest (zqm r d) t with
  | none => exact ⟨⟨by decide, by decide⟩, by decide, by decide⟩
  | some o =>
    obtain ⟨i, a, b⟩ := o
    exact zqm_g hv h8 (zbest_mem h).2
theorem zcb_n2 {w : Nat} (hw : w ≤ 4) {o : Option (Nat × Int × Int)} : zcb (w + 1) o = -9 ↔ o = none := by
  cases o with
  | none => exact ⟨fun _ => rfl, fun _ => rfl⟩
  | some p =>
    obtain ⟨k, a, b⟩ := p
    refine ⟨fun h => ?_, fun h => by cases h⟩
    have h1 := zcode_5 hw (zcode_cn k w)
    exact absurd h (zn9 (by omega))
theorem znext_eq {r : zRo} (hv : zVr r) (h8 : r.2.1 < 8) (d : Bool) : zcb (r.1 + 1) (zbest (zqm r d) (3 ^ (r.1 + 1))) = zop_next r d := by
  have hp : 1 ≤ 3 ^ r.1 := Nat.pow_pos (by decide)
  have e1 : zbest (zqm r d) (3 ^ (r.1 + 1)) = zbest (zqm r d) (3 ^ r.1) := by
    have e2 : 3 ^ (r.1 + 1) = 3 ^ r.1 + 2 * 3 ^ r.1 := by rw [Nat.pow_succ]; omega
    rw [e2]
    refine zbest_keep (fun s a b h => (zqm_g hv h8 h).2.1) (fun t ht => ⟨t % 3 ^ r.1, Nat.mod_lt _ (by omega), ?_⟩) _
    rw [zqm_n, zqm_n, Nat.mod_mod]
  have e3 : zbest (zqm r d) (3 ^ r.1) = zbest (zqn r d) (3 ^ r.1) := zbest_cong (fun t ht => by rw [zqm_n, Nat.mod_eq_of_lt ht])
  rw [e1, e3, zop_next, if_neg (by omega)]
  cases h : zbest (zqn r d) (3 ^ r.1) with
  | none => rfl
  | some o =>
    obtain ⟨k, a, b⟩ := o
    have hk := (zbest_mem h).1
    show nI (zcn k r.1 + k / 3 ^ r.1 % 3 * 10 ^ r.1) = nI (zcn k r.1)
    rw [Nat.div_eq_of_lt hk]
    simp
set_option maxHeartbeats 4000000 in
set_option maxRecDepth 100000 in
theorem k_X6_next {E : zE} (hI : zI E) (M : zM) {σ : zSt} (hσ : zMs M σ) (hk : zSk σ) (d : Bool) : zK E yX6_next (.code yX6_next cX6_next 10 (some .int)) (zrm 5 121) [.ref (E.2.2.2 32), .int (zdr d)] M (zpi (fun v M2 => v = zop_next σ.2.2.1 d ∧ zMs M2 σ ∧ zfN M M2)) := by
  refine zK_of hI (by decide) (Nat.le_of_ble_eq_true rfl) (fun x hx ri rz rl rv => ?_)
  show zJ E x 0 [(0, .ref (E.2.2.2 32)), (1, .int (zdr d))] [] M
  obtain ⟨tx, len, ⟨w, n, mm, cd, rd⟩, as, s, sl, sd⟩ := σ
  have hσ2 := hσ
  obtain ⟨⟨hL, hT⟩, hW, hP, ⟨hs, hA⟩, hS, hsd⟩ := hσ
  have hv := hk.1
  have hw4 : 1 ≤ w ∧ w ≤ 4 := hv.1
  have hmm : mm ≤ 99 := hv.2.1
  have hn8 : n ≤ 8 := hv.2.2.1
  have hlen : len ≤ 90 := hk.2.1.1
  have hs14 : s ≤ 14 := hk.2.2.1
  have hL : M.1 32 2 = nI len := hL
  have hW : M.1 32 4 = nI w := hW
  have hs : M.1 32 11 = nI s := hs
  have hsd : M.2 32 14 = sd := hsd
  have hP0 : M.1 35 0 = nI mm := hP.1
  have hP1 : M.1 35 1 = nI n := hP.2.1
  have hP2 : ∀ t, t < n → M.1 35 (2 + t) = nI (cd t) ∧ M.1 35 (10 + t) = Int32.ofInt (rd t) := hP.2.2
  have hT : ∀ k, k < 90 → M.1 33 k = nI (tx k) := hT
  have hu := zunk_le hw4.2 d
  have hp3 := zp3 hw4.2
  have hpow : 3 ^ (w + 1) = 3 * 3 ^ w := by rw [Nat.pow_succ, Nat.mul_comm]
  refine z_aload_n hx 0 dX6_next_0 rfl rfl ?_
  refine z_iconst hx (v := nI 0) dX6_next_1 (by decide +kernel) ?_
  refine zp_X6_0 hx zw_576 dX6_next_2 ?_
  refine z_aload_n hx 0 dX6_next_5 rfl rfl ?_
  refine zg_X6_7 hx zw_583 dX6_next_6 ?_
  refine z_iconst hx (v := nI 1) dX6_next_9 (by decide +kernel) ?_
  refine z_iald_n hx (zIA_35 E) (by omega) dX6_next_10 ?_
  refine z_eqi (b := nI n) (zskI (by omega) hP1) ?_
  refine z_bipush hx (v := nI 8) dX6_next_11 (by decide +kernel) ?_
  refine z_icmp_ne_n (tgt := 19) hx (by omega) (by omega) dX6_next_13 (by decide) (fun h13 => ?_) (fun h13 => ?_)
  · skip
    refine z_bipush hx (v := (-9)) dX6_next_19 rfl ?_
    refine z_istore_n hx (lv2 := [(2, .int (-9)), (0, .ref (E.2.2.2 32)), (1, .int (zdr d))]) dX6_next_21 rfl (by decide) rfl ?_
    refine z_lconst hx (v := 0) dX6_next_22 rfl ?_
    refine z_lstore_n hx (lv2 := [(3, .long 0), (2, .int (-9)), (0, .ref (E.2.2.2 32)), (1, .int (zdr d))]) dX6_next_23 rfl (by decide) rfl ?_
    refine z_lconst hx (v := 1) dX6_next_24 rfl ?_
    refine z_lstore hx (lv2 := [(5, .long 1), (3, .long 0), (2, .int (-9)), (0, .ref (E.2.2.2 32)), (1, .int (zdr d))]) dX6_next_25 (by decide) rfl ?_
    refine z_iconst hx (v := nI 0) dX6_next_27 (by decide +kernel) ?_
    refine z_istore hx (lv2 := [(7, .int (nI 0)), (5, .long 1), (3, .long 0), (2, .int (-9)), (0, .ref (E.2.2.2 32)), (1, .int (zdr d))]) dX6_next_28 (by decide) rfl ?_
    have loop30 : ∀ (fuel30 : Nat) (k : Nat) (N : zM) (_ : k ≤ 3 ^ (w + 1)) (_ : zfT (zputI M 32 0 (nI 0)) N), 3 ^ (w + 1) - k < fuel30 → zJ E x 30 [(7, .int (nI k)), (5, .long (Int64.ofInt (zrl (zbest (zqm (w, n, mm, cd, rd) d) k)))), (3, .long (Int64.ofInt (zru (zbest (zqm (w, n, mm, cd, rd) d) k)))), (2, .int (zcb (w + 1) (zbest (zqm (w, n, mm, cd, rd) d) k))), (0, .ref (E.2.2.2 32)), (1, .int (zdr d))] [] N := by
      intro fuel30
      induction fuel30 with
      | zero =>
        intros; omega
      | succ fuel30 ih30 =>
        intro k N hk3 hNf hfuel30
        refine z_iload hx 0 dX6_next_30 rfl ?_
        refine z_iconst hx (v := nI 3) dX6_next_32 (by decide +kernel) ?_
        refine z_aload_n hx 4 dX6_next_33 rfl rfl ?_
        refine zg_X6_4 hx zw_580 dX6_next_34 ?_
        refine z_eqi (b := nI w) ((hNf.2 4 (by omega)).1.trans (zskK (by omega) hW)) ?_
        refine z_iconst hx (v := nI 1) dX6_next_37 (by decide +kernel) ?_
        refine z_iadd_n hx dX6_next_38 ?_
        refine z_callS hx (As := [.int (nI 3), .int (nI (w + 1))]) (st := [.int (nI k)]) (k_X6_power hI N 3 (w + 1) (by omega)) zw_712 zy_X6_power ⟨rfl, rfl⟩ (by decide) rfl rfl (Nat.le_of_ble_eq_true rfl) dX6_next_39 ?_
        rintro _ M39 ⟨v39, rfl, q39⟩
        obtain ⟨rfl, q39⟩ := q39
        rw [q39]
        show zJ E x 42 _ [.int (nI (3 ^ (w + 1))), .int (nI k)] _
        refine z_icmp_ge_n (tgt := 207) hx (by omega) (by omega) dX6_next_42 (by decide) (fun h42 => ?_) (fun h42 => ?_)
        · skip
          refine z_iload_n hx 3 dX6_next_207 rfl rfl ?_
          exact ri _ _ _ _ rfl ⟨_, rfl, ⟨by rw [show k = 3 ^ (w + 1) by omega]; exact znext_eq (r := (w, n, mm, cd, rd)) hk.1 (by show n < 8; omega) d, zMs_T hσ2 hNf⟩⟩ dX6_next_208
        · skip
          refine z_iconst hx (v := nI 0) dX6_next_45 (by decide +kernel) ?_
          refine z_istore hx (lv2 := [(8, .int (nI 0)), (7, .int (nI k)), (5, .long (Int64.ofInt (zrl (zbest (zqm (w, n, mm, cd, rd) d) k)))), (3, .long (Int64.ofInt (zru (zbest (zqm (w, n, mm, cd, rd) d) k)))), (2, .int (zcb (w + 1) (zbest (zqm (w, n, mm, cd, rd) d) k))), (0, .ref (E.2.2.2 32)), (1, .int (zdr d))]) dX6_next_46 (by decide) rfl ?_
          refine z_iconst hx (v := nI 0) dX6_next_48 (by decide +kernel) ?_
          refine z_istore hx (lv2 := [(9, .int (nI 0)), (8, .int (nI 0)), (7, .int (nI k)), (5, .long (Int64.ofInt (zrl (zbest (zqm (w, n, mm, cd, rd) d) k)))), (3, .long (Int64.ofInt (zru (zbest (zqm (w, n, mm, cd, rd) d) k)))), (2, .int (zcb (w + 1) (zbest (zqm (w, n, mm, cd, rd) d) k))), (0, .ref (E.2.2.2 32)), (1, .int (zdr d))]) dX6_next_49 (by decide) rfl ?_
          have loop51 : ∀ (fuel51 : Nat) (i : Nat) (_ : i ≤ w + 1), w + 2 - i < fuel51 → zJ E x 51 [(9, .int (nI i)), (8, .int (nI (zcn k i))), (7, .int (nI k)), (5, .long (Int64.ofInt (zrl (zbest (zqm (w, n, mm, cd, rd) d) k)))), (3, .long (Int64.ofInt (zru (zbest (zqm (w, n, mm, cd, rd) d) k)))), (2, .int (zcb (w + 1) (zbest (zqm (w, n, mm, cd, rd) d) k))), (0, .ref (E.2.2.2 32)), (1, .int (zdr d))] [] N := by
            intro fuel51
            induction fuel51 with
            | zero =>
              intros; omega
            | succ fuel51 ih51 =>
              intro i hi hfuel51
              refine z_iload hx 0 dX6_next_51 rfl ?_
              refine z_aload_n hx 6 dX6_next_53 rfl rfl ?_
              refine zg_X6_4 hx zw_580 dX6_next_54 ?_
              refine z_eqi (b := nI w) ((hNf.2 4 (by omega)).1.trans (zskK (by omega) hW)) ?_
              refine z_icmp_gt_n (tgt := 90) hx (by omega) (by omega) dX6_next_57 (by decide) (fun h57 => ?_) (fun h57 => ?_)
              · skip
                have hei : i = w + 1 := by omega
                subst hei
                refine z_aload_n hx 6 dX6_next_90 rfl rfl ?_
                refine zg_X6_7 hx zw_583 dX6_next_91 ?_
                refine z_aload_n hx 6 dX6_next_94 rfl rfl ?_
                refine zg_X6_8 hx zw_584 dX6_next_95 ?_
                refine z_callS hx (As := [.ref (E.2.2.2 35), .ref (E.2.2.2 36)]) (st := []) (k_X6_copy hI N (p := 35) (q := 36) zPc_35 zPc_36 (by omega)) zw_689 zy_X6_copy ⟨rfl, rfl⟩ (by decide) rfl rfl (Nat.le_of_ble_eq_true rfl) dX6_next_98 ?_
                rintro _ M98 ⟨rfl, q98⟩
                show zJ E x 101 _ [] _
                refine z_aload_n hx 6 dX6_next_101 rfl rfl ?_
                refine zg_X6_8 hx zw_584 dX6_next_102 ?_
                refine z_iconst hx (v := nI 2) dX6_next_105 (by decide +kernel) ?_
                refine z_aload_n hx 6 dX6_next_106 rfl rfl ?_
                refine zg_X6_8 hx zw_584 dX6_next_107 ?_
                refine z_iconst hx (v := nI 1) dX6_next_110 (by decide +kernel) ?_
                refine z_iald_n hx (zIA_36 E) (by omega) dX6_next_111 ?_
                refine z_eqi (b := nI n) ((q98.1 1 (by omega)).trans (by rw [(zfm_c hNf (by omega) (by omega)).1]; exact hP1)) ?_
                refine z_iadd_n hx dX6_next_112 ?_
                refine z_iload hx 1 dX6_next_113 rfl ?_
                refine z_iast_n hx (zIA_36 E) (by omega) dX6_next_115 ?_
                refine z_aload_n hx 6 dX6_next_116 rfl rfl ?_
                refine zg_X6_8 hx zw_584 dX6_next_117 ?_
                refine z_bipush hx (v := nI 10) dX6_next_120 (by decide +kernel) ?_
                refine z_aload_n hx 6 dX6_next_122 rfl rfl ?_
                refine zg_X6_8 hx zw_584 dX6_next_123 ?_
                refine z_iconst hx (v := nI 1) dX6_next_126 (by decide +kernel) ?_
                refine z_iald_n hx (zIA_36 E) (by omega) dX6_next_127 ?_
                refine z_eqi (b := nI n) (zskK (by omega) ((q98.1 1 (by omega)).trans (by rw [(zfm_c hNf (by omega) (by omega)).1]; exact hP1))) ?_
                refine z_iadd_n hx dX6_next_128 ?_
                refine z_iconst hx (v := nI 0) dX6_next_129 (by decide +kernel) ?_
                refine z_iast_n hx (zIA_36 E) (by omega) dX6_next_130 ?_
                refine z_aload_n hx 6 dX6_next_131 rfl rfl ?_
                refine zg_X6_8 hx zw_584 dX6_next_132 ?_
                refine z_iconst hx (v := nI 1) dX6_next_135 (by decide +kernel) ?_
                refine z_dup2_11 hx dX6_next_136 rfl rfl ?_
                refine z_iald_n hx (zIA_36 E) (by omega) dX6_next_137 ?_
                refine z_eqi (b := nI n) (zskK (by omega) (zskK (by omega) ((q98.1 1 (by omega)).trans (by rw [(zfm_c hNf (by omega) (by omega)).1]; exact hP1)))) ?_
                refine z_iconst hx (v := nI 1) dX6_next_138 (by decide +kernel) ?_
                refine z_iadd_n hx dX6_next_139 ?_
                refine z_iast_n hx (zIA_36 E) (by omega) dX6_next_140 ?_
                have hpn := zp2 (n := n + 1) (by omega)
                have hPt : zPf (M98.1 36) (w, n, mm, cd, rd) := zPf_cg hP hn8 (fun j hj => (q98.1 j hj).trans (by rw [(zfm_c hNf (by omega) (by omega)).1]; rfl))
                have hap := zPf_append (k := zcn k (w + 1)) (z := 0) hPt (by omega)
                rw [show Int32.ofInt 0 = nI 0 by decide +kernel] at hap
                have hvt : zVr (zmore (w, n, mm, cd, rd) (zcn k (w + 1))) := zVr_more (r := (w, n, mm, cd, rd)) hk.1 (zcode_cn k w) (by show n < 8; omega)
                have hRt : zPr (zputI (zputI (zputI M98 36 (2 + n) (nI (zcn k (w + 1)))) 36 (10 + n) (nI 0)) 36 1 (nI (n + 1))) 36 (zmore (w, n, mm, cd, rd) (zcn k (w + 1))) := ⟨zskI (by omega) (zskI (by omega) (zskI (by omega) (by rw [(q98.2 32 (by omega)).1]; exact (hNf.2 4 (by omega)).1.trans (zskK (by omega) hW)))), hap, hvt⟩
                refine z_aload_n hx 6 dX6_next_141 rfl rfl ?_
                refine z_aload_n hx 6 dX6_next_142 rfl rfl ?_
                refine zg_X6_8 hx zw_584 dX6_next_143 ?_
                refine z_aload_n hx 6 dX6_next_146 rfl rfl ?_
                refine zg_X6_8 hx zw_584 dX6_next_147 ?_
                refine z_callS hx (As := [.ref (E.2.2.2 36)]) (st := [.ref (E.2.2.2 36), .ref (E.2.2.2 32)]) (k_X6_allOf hI (zputI (zputI (zputI M98 36 (2 + n) (nI (zcn k (w + 1)))) 36 (10 + n) (nI 0)) 36 1 (nI (n + 1))) (p := 36) (n := n + 1) zPc_36 zhtI (by omega)) zw_752 zy_X6_allOf ⟨rfl, rfl⟩ (by decide) rfl rfl (Nat.le_of_ble_eq_true rfl) dX6_next_150 ?_
                rintro _ M150 ⟨v150, rfl, q150⟩
                obtain ⟨rfl, q150⟩ := q150
                rw [q150]
                show zJ E x 153 _ [.int (nI (2 ^ (n + 1) - 1)), .ref (E.2.2.2 36), .ref (E.2.2.2 32)] _
                refine z_iload_n hx 7 dX6_next_153 rfl rfl ?_
                refine z_callV hx (As := [.ref (E.2.2.2 36), .int (nI (2 ^ (n + 1) - 1)), .int (zdr d)]) (st := []) (k_X6_isLaid hI (zputI (zputI (zputI M98 36 (2 + n) (nI (zcn k (w + 1)))) 36 (10 + n) (nI 0)) 36 1 (nI (n + 1))) zPc_36 hRt (s := 2 ^ (n + 1) - 1) (by omega) d) zw_801 zy_X6_isLaid ⟨rfl, rfl⟩ (by decide) (zOB_X6 E) rfl rfl rfl rfl (Nat.le_of_ble_eq_true rfl) dX6_next_154 ?_
                rintro _ M154 ⟨v154, rfl, q154⟩
                have q154 : ((¬ zdet (zunk w d) (zGm (zmore (w, n, mm, cd, rd) (zcn k (w + 1))) d (zst (2 ^ (n + 1) - 1))) = 0 ∧ v154 = nI 1) ∨ (zdet (zunk w d) (zGm (zmore (w, n, mm, cd, rd) (zcn k (w + 1))) d (zst (2 ^ (n + 1) - 1))) = 0 ∧ v154 = nI 0)) ∧ zGt M154 (zunk w d) (zGm (zmore (w, n, mm, cd, rd) (zcn k (w + 1))) d (zst (2 ^ (n + 1) - 1))) ∧ zfL (zputI (zputI (zputI M98 36 (2 + n) (nI (zcn k (w + 1)))) 36 (10 + n) (nI 0)) 36 1 (nI (n + 1))) M154 := q154
                rw [show zGm (zmore (w, n, mm, cd, rd) (zcn k (w + 1))) d (zst (2 ^ (n + 1) - 1)) = (zGm (zmore (w, n, mm, cd, rd) (zcn k (w + 1))) d zall) from zGm_al (r := (zmore (w, n, mm, cd, rd) (zcn k (w + 1)))) d (by show n + 1 ≤ 8; omega)] at q154
                obtain ⟨q154, hGl, hfl⟩ := q154
                have hf154 : zfT N M154 := zfm_tr (zfm_of (zfr_w q98.2 (fun c z => Or.inl z)) (by omega)) (zfm_tr (zfm_tr (zfm_tr (zfm_cI (Or.inl rfl) (by omega)) (zfm_cI (Or.inl rfl) (by omega))) (zfm_cI (Or.inl rfl) (by omega))) (zfT_L hfl))
                rcases q154 with ⟨hne, rfl⟩ | ⟨hze, rfl⟩
                · skip
                  show zJ E x 157 _ [.int (nI 1)] _
                  have hp1 : 0 ≤ (zdet (zunk w d) (zGm (zmore (w, n, mm, cd, rd) (zcn k (w + 1))) d zall)) := (zD_in (r := (zmore (w, n, mm, cd, rd) (zcn k (w + 1)))) hvt d zall).1
                  have hq : zqm (w, n, mm, cd, rd) d k = some ((zS w (fun k1 => zMin (zGm (zmore (w, n, mm, cd, rd) (zcn k (w + 1))) d zall) (zunk w d) k1)), (zdet (zunk w d) (zGm (zmore (w, n, mm, cd, rd) (zcn k (w + 1))) d zall))) := if_pos (by show 0 < (zdet (zunk w d) (zGm (zmore (w, n, mm, cd, rd) (zcn k (w + 1))) d zall)); omega)
                  have hg := zqm_g (r := (w, n, mm, cd, rd)) hk.1 (by show n < 8; omega) hq
                  have hgo := zgdo_m (r := (w, n, mm, cd, rd)) hk.1 (by show n < 8; omega) d k
                  refine z_if_eq_n (tgt := 201) hx (by decide) dX6_next_157 (by decide) (fun h => absurd h (by decide)) (fun _ => ?_)
                  refine z_aload_n hx 6 dX6_next_160 rfl rfl ?_
                  refine z_callV hx (As := []) (st := []) (k_X6_layTotal hI M154 (r := (zmore (w, n, mm, cd, rd) (zcn k (w + 1)))) hvt hGl hne ((hfl.2 4 (by omega)).1.trans hRt.1)) zw_825 zy_X6_layTotal ⟨rfl, rfl⟩ (by decide) (zOB_X6 E) rfl rfl rfl rfl (Nat.le_of_ble_eq_true rfl) dX6_next_161 ?_
                  rintro _ M161 ⟨rfl, q161⟩
                  show zJ E x 164 _ [] _
                  refine z_iload_n hx 5 dX6_next_164 rfl rfl ?_
                  refine z_bipush hx (v := (-9)) dX6_next_165 rfl ?_
                  refine z_icmp_eq (tgt := 187) hx dX6_next_167 (by decide) (fun h167 => ?_) (fun h167 => ?_)
                  · skip
                    have hnew := zbest_first hq ((zcb_n2 hw4.2).mp h167)
                    refine z_iload hx 1 dX6_next_187 rfl ?_
                    refine z_istore_n hx (lv2 := [(2, .int (nI (zcn k (w + 1)))), (9, .int (nI (w + 1))), (8, .int (nI (zcn k (w + 1)))), (7, .int (nI k)), (5, .long (Int64.ofInt (zrl (zbest (zqm (w, n, mm, cd, rd) d) k)))), (3, .long (Int64.ofInt (zru (zbest (zqm (w, n, mm, cd, rd) d) k)))), (0, .ref (E.2.2.2 32)), (1, .int (zdr d))]) dX6_next_189 rfl (by decide) rfl ?_
                    refine z_aload_n hx 6 dX6_next_190 rfl rfl ?_
                    refine zg_X6_22 hx zw_598 dX6_next_191 ?_
                    refine z_eql (b := Int64.ofInt (zTold (zS w (fun k1 => zMin (zGm (zmore (w, n, mm, cd, rd) (zcn k (w + 1))) d zall) (zunk w d) k1)) (zdet (zunk w d) (zGm (zmore (w, n, mm, cd, rd) (zcn k (w + 1))) d zall)).natAbs true)) q161.1 ?_
                    refine z_lstore_n hx (lv2 := [(3, .long (Int64.ofInt (zTold (zS w (fun k1 => zMin (zGm (zmore (w, n, mm, cd, rd) (zcn k (w + 1))) d zall) (zunk w d) k1)) (zdet (zunk w d) (zGm (zmore (w, n, mm, cd, rd) (zcn k (w + 1))) d zall)).natAbs true))), (2, .int (nI (zcn k (w + 1)))), (9, .int (nI (w + 1))), (8, .int (nI (zcn k (w + 1)))), (7, .int (nI k)), (5, .long (Int64.ofInt (zrl (zbest (zqm (w, n, mm, cd, rd) d) k)))), (0, .ref (E.2.2.2 32)), (1, .int (zdr d))]) dX6_next_194 rfl (by decide) rfl ?_
                    refine z_aload_n hx 6 dX6_next_195 rfl rfl ?_
                    refine zg_X6_23 hx zw_599 dX6_next_196 ?_
                    refine z_eql (b := Int64.ofInt (zTold (zS w (fun k1 => zMin (zGm (zmore (w, n, mm, cd, rd) (zcn k (w + 1))) d zall) (zunk w d) k1)) (zdet (zunk w d) (zGm (zmore (w, n, mm, cd, rd) (zcn k (w + 1))) d zall)).natAbs false)) q161.2.1 ?_
                    refine z_lstore hx (lv2 := [(5, .long (Int64.ofInt (zTold (zS w (fun k1 => zMin (zGm (zmore (w, n, mm, cd, rd) (zcn k (w + 1))) d zall) (zunk w d) k1)) (zdet (zunk w d) (zGm (zmore (w, n, mm, cd, rd) (zcn k (w + 1))) d zall)).natAbs false))), (3, .long (Int64.ofInt (zTold (zS w (fun k1 => zMin (zGm (zmore (w, n, mm, cd, rd) (zcn k (w + 1))) d zall) (zunk w d) k1)) (zdet (zunk w d) (zGm (zmore (w, n, mm, cd, rd) (zcn k (w + 1))) d zall)).natAbs true))), (2, .int (nI (zcn k (w + 1)))), (9, .int (nI (w + 1))), (8, .int (nI (zcn k (w + 1)))), (7, .int (nI k)), (0, .ref (E.2.2.2 32)), (1, .int (zdr d))]) dX6_next_199 (by decide) rfl ?_
                    refine z_iinc hx (w := nI (k + 1)) (lv2 := [(7, .int (nI (k + 1))), (5, .long (Int64.ofInt (zTold (zS w (fun k1 => zMin (zGm (zmore (w, n, mm, cd, rd) (zcn k (w + 1))) d zall) (zunk w d) k1)) (zdet (zunk w d) (zGm (zmore (w, n, mm, cd, rd) (zcn k (w + 1))) d zall)).natAbs false))), (3, .long (Int64.ofInt (zTold (zS w (fun k1 => zMin (zGm (zmore (w, n, mm, cd, rd) (zcn k (w + 1))) d zall) (zunk w d) k1)) (zdet (zunk w d) (zGm (zmore (w, n, mm, cd, rd) (zcn k (w + 1))) d zall)).natAbs true))), (2, .int (nI (zcn k (w + 1)))), (9, .int (nI (w + 1))), (8, .int (nI (zcn k (w + 1)))), (0, .ref (E.2.2.2 32)), (1, .int (zdr d))]) 5 dX6_next_201 rfl (z_inc _) (by decide) rfl ?_
                    refine z_goto (tgt := 30) hx dX6_next_204 (by decide) ?_
                    exact z_to (ih30 (k + 1) M161 (by omega) (zfm_tr hNf (zfm_tr hf154 (zfT_L q161.2.2.2))) (by omega)) [0, 1, 2, 3, 6, 7] (by rw [hnew]; rfl) rfl
                  · skip
                    refine z_aload_n hx 6 dX6_next_170 rfl rfl ?_
                    refine zg_X6_22 hx zw_598 dX6_next_171 ?_
                    refine z_eql (b := Int64.ofInt (zTold (zS w (fun k1 => zMin (zGm (zmore (w, n, mm, cd, rd) (zcn k (w + 1))) d zall) (zunk w d) k1)) (zdet (zunk w d) (zGm (zmore (w, n, mm, cd, rd) (zcn k (w + 1))) d zall)).natAbs true)) q161.1 ?_
                    refine z_lload hx 3 dX6_next_174 rfl ?_
                    refine z_lmul hx dX6_next_176 ?_
                    refine z_lload_n hx 4 dX6_next_177 rfl rfl ?_
                    refine z_aload_n hx 6 dX6_next_178 rfl rfl ?_
                    refine zg_X6_23 hx zw_599 dX6_next_179 ?_
                    refine z_eql (b := Int64.ofInt (zTold (zS w (fun k1 => zMin (zGm (zmore (w, n, mm, cd, rd) (zcn k (w + 1))) d zall) (zunk w d) k1)) (zdet (zunk w d) (zGm (zmore (w, n, mm, cd, rd) (zcn k (w + 1))) d zall)).natAbs false)) q161.2.1 ?_
                    refine z_lmul hx dX6_next_182 ?_
                    refine z_lcmp hx dX6_next_183 ?_
                    refine z_if_ge (tgt := 201) hx dX6_next_184 (by decide) (fun h184 => ?_) (fun h184 => ?_)
                    · skip
                      obtain ⟨o1, o2, o3, ho⟩ : ∃ i a b, (zbest (zqm (w, n, mm, cd, rd) d) k) = some (i, a, b) := by
                        cases e : (zbest (zqm (w, n, mm, cd, rd) d) k) with
                        | none => exact absurd (by rw [e]; rfl) h167
                        | some o => exact ⟨o.1, o.2.1, o.2.2, rfl⟩
                      have hcm : ¬ _ := fun z => zcmpge h184 ((zlt_red hg.1 hg.2.1 hg.2.2 hgo).mpr z)
                      have hnew : zbest (zqm (w, n, mm, cd, rd) d) (k + 1) = zbest (zqm (w, n, mm, cd, rd) d) k := by
                        rw [ho] at hcm
                        rw [zbest_nay hq ho hcm, ho]
                      refine z_iinc hx (w := nI (k + 1)) (lv2 := [(7, .int (nI (k + 1))), (9, .int (nI (w + 1))), (8, .int (nI (zcn k (w + 1)))), (5, .long (Int64.ofInt (zrl (zbest (zqm (w, n, mm, cd, rd) d) k)))), (3, .long (Int64.ofInt (zru (zbest (zqm (w, n, mm, cd, rd) d) k)))), (2, .int (zcb (w + 1) (zbest (zqm (w, n, mm, cd, rd) d) k))), (0, .ref (E.2.2.2 32)), (1, .int (zdr d))]) 2 dX6_next_201 rfl (z_inc _) (by decide) rfl ?_
                      refine z_goto (tgt := 30) hx dX6_next_204 (by decide) ?_
                      exact z_to (ih30 (k + 1) M161 (by omega) (zfm_tr hNf (zfm_tr hf154 (zfT_L q161.2.2.2))) (by omega)) [0, 3, 4, 5, 6, 7] (by rw [hnew]; rfl) rfl
                    · skip
                      obtain ⟨o1, o2, o3, ho⟩ : ∃ i a b, (zbest (zqm (w, n, mm, cd, rd) d) k) = some (i, a, b) := by
                        cases e : (zbest (zqm (w, n, mm, cd, rd) d) k) with
                        | none => exact absurd (by rw [e]; rfl) h167
                        | some o => exact ⟨o.1, o.2.1, o.2.2, rfl⟩
                      have hcm := (zlt_red hg.1 hg.2.1 hg.2.2 hgo).mp (zcmpnge h184)
                      rw [ho] at hcm
                      have hnew := zbest_yes hq ho hcm
                      refine z_iload hx 1 dX6_next_187 rfl ?_
                      refine z_istore_n hx (lv2 := [(2, .int (nI (zcn k (w + 1)))), (9, .int (nI (w + 1))), (8, .int (nI (zcn k (w + 1)))), (7, .int (nI k)), (5, .long (Int64.ofInt (zrl (zbest (zqm (w, n, mm, cd, rd) d) k)))), (3, .long (Int64.ofInt (zru (zbest (zqm (w, n, mm, cd, rd) d) k)))), (0, .ref (E.2.2.2 32)), (1, .int (zdr d))]) dX6_next_189 rfl (by decide) rfl ?_
                      refine z_aload_n hx 6 dX6_next_190 rfl rfl ?_
                      refine zg_X6_22 hx zw_598 dX6_next_191 ?_
                      refine z_eql (b := Int64.ofInt (zTold (zS w (fun k1 => zMin (zGm (zmore (w, n, mm, cd, rd) (zcn k (w + 1))) d zall) (zunk w d) k1)) (zdet (zunk w d) (zGm (zmore (w, n, mm, cd, rd) (zcn k (w + 1))) d zall)).natAbs true)) q161.1 ?_
                      refine z_lstore_n hx (lv2 := [(3, .long (Int64.ofInt (zTold (zS w (fun k1 => zMin (zGm (zmore (w, n, mm, cd, rd) (zcn k (w + 1))) d zall) (zunk w d) k1)) (zdet (zunk w d) (zGm (zmore (w, n, mm, cd, rd) (zcn k (w + 1))) d zall)).natAbs true))), (2, .int (nI (zcn k (w + 1)))), (9, .int (nI (w + 1))), (8, .int (nI (zcn k (w + 1)))), (7, .int (nI k)), (5, .long (Int64.ofInt (zrl (zbest (zqm (w, n, mm, cd, rd) d) k)))), (0, .ref (E.2.2.2 32)), (1, .int (zdr d))]) dX6_next_194 rfl (by decide) rfl ?_
                      refine z_aload_n hx 6 dX6_next_195 rfl rfl ?_
                      refine zg_X6_23 hx zw_599 dX6_next_196 ?_
                      refine z_eql (b := Int64.ofInt (zTold (zS w (fun k1 => zMin (zGm (zmore (w, n, mm, cd, rd) (zcn k (w + 1))) d zall) (zunk w d) k1)) (zdet (zunk w d) (zGm (zmore (w, n, mm, cd, rd) (zcn k (w + 1))) d zall)).natAbs false)) q161.2.1 ?_
                      refine z_lstore hx (lv2 := [(5, .long (Int64.ofInt (zTold (zS w (fun k1 => zMin (zGm (zmore (w, n, mm, cd, rd) (zcn k (w + 1))) d zall) (zunk w d) k1)) (zdet (zunk w d) (zGm (zmore (w, n, mm, cd, rd) (zcn k (w + 1))) d zall)).natAbs false))), (3, .long (Int64.ofInt (zTold (zS w (fun k1 => zMin (zGm (zmore (w, n, mm, cd, rd) (zcn k (w + 1))) d zall) (zunk w d) k1)) (zdet (zunk w d) (zGm (zmore (w, n, mm, cd, rd) (zcn k (w + 1))) d zall)).natAbs true))), (2, .int (nI (zcn k (w + 1)))), (9, .int (nI (w + 1))), (8, .int (nI (zcn k (w + 1)))), (7, .int (nI k)), (0, .ref (E.2.2.2 32)), (1, .int (zdr d))]) dX6_next_199 (by decide) rfl ?_
                      refine z_iinc hx (w := nI (k + 1)) (lv2 := [(7, .int (nI (k + 1))), (5, .long (Int64.ofInt (zTold (zS w (fun k1 => zMin (zGm (zmore (w, n, mm, cd, rd) (zcn k (w + 1))) d zall) (zunk w d) k1)) (zdet (zunk w d) (zGm (zmore (w, n, mm, cd, rd) (zcn k (w + 1))) d zall)).natAbs false))), (3, .long (Int64.ofInt (zTold (zS w (fun k1 => zMin (zGm (zmore (w, n, mm, cd, rd) (zcn k (w + 1))) d zall) (zunk w d) k1)) (zdet (zunk w d) (zGm (zmore (w, n, mm, cd, rd) (zcn k (w + 1))) d zall)).natAbs true))), (2, .int (nI (zcn k (w + 1)))), (9, .int (nI (w + 1))), (8, .int (nI (zcn k (w + 1)))), (0, .ref (E.2.2.2 32)), (1, .int (zdr d))]) 5 dX6_next_201 rfl (z_inc _) (by decide) rfl ?_
                      refine z_goto (tgt := 30) hx dX6_next_204 (by decide) ?_
                      exact z_to (ih30 (k + 1) M161 (by omega) (zfm_tr hNf (zfm_tr hf154 (zfT_L q161.2.2.2))) (by omega)) [0, 1, 2, 3, 6, 7] (by rw [hnew]; rfl) rfl
                · skip
                  show zJ E x 157 _ [.int (nI 0)] _
                  have hqn : zqm (w, n, mm, cd, rd) d k = none := if_neg (by show ¬ 0 < (zdet (zunk w d) (zGm (zmore (w, n, mm, cd, rd) (zcn k (w + 1))) d zall)); omega)
                  refine z_if_eq_n (tgt := 201) hx (by decide) dX6_next_157 (by decide) (fun _ => ?_) (fun h => absurd h (by decide))
                  refine z_iinc hx (w := nI (k + 1)) (lv2 := [(7, .int (nI (k + 1))), (9, .int (nI (w + 1))), (8, .int (nI (zcn k (w + 1)))), (5, .long (Int64.ofInt (zrl (zbest (zqm (w, n, mm, cd, rd) d) k)))), (3, .long (Int64.ofInt (zru (zbest (zqm (w, n, mm, cd, rd) d) k)))), (2, .int (zcb (w + 1) (zbest (zqm (w, n, mm, cd, rd) d) k))), (0, .ref (E.2.2.2 32)), (1, .int (zdr d))]) 2 dX6_next_201 rfl (z_inc _) (by decide) rfl ?_
                  refine z_goto (tgt := 30) hx dX6_next_204 (by decide) ?_
                  exact z_to (ih30 (k + 1) M154 (by omega) (zfm_tr hNf hf154) (by omega)) [0, 3, 4, 5, 6, 7] (by rw [zbest_no hqn]; rfl) rfl
              · skip
                have hpi : 1 ≤ 3 ^ i := Nat.pow_pos (by decide)
                have hpi2 : 3 ^ i ≤ 81 := zp3 (by omega)
                have hdk := Nat.div_le_self k (3 ^ i)
                refine z_iload hx 1 dX6_next_60 rfl ?_
                refine z_iload hx 2 dX6_next_62 rfl ?_
                refine z_iconst hx (v := nI 3) dX6_next_64 (by decide +kernel) ?_
                refine z_iload hx 0 dX6_next_65 rfl ?_
                refine z_callS hx (As := [.int (nI 3), .int (nI i)]) (st := [.int (nI k), .int (nI (zcn k i))]) (k_X6_power hI N 3 i (by omega)) zw_712 zy_X6_power ⟨rfl, rfl⟩ (by decide) rfl rfl (Nat.le_of_ble_eq_true rfl) dX6_next_67 ?_
                rintro _ M67 ⟨v67, rfl, q67⟩
                obtain ⟨rfl, q67⟩ := q67
                rw [q67]
                show zJ E x 70 _ [.int (nI (3 ^ i)), .int (nI k), .int (nI (zcn k i))] _
                refine z_idiv_n hx (by omega) (by omega) (by omega) dX6_next_70 ?_
                refine z_iconst hx (v := nI 3) dX6_next_71 (by decide +kernel) ?_
                refine z_irem_n hx (by omega) (by omega) (by omega) dX6_next_72 ?_
                refine z_bipush hx (v := nI 10) dX6_next_73 (by decide +kernel) ?_
                refine z_iload hx 0 dX6_next_75 rfl ?_
                refine z_callS hx (As := [.int (nI 10), .int (nI i)]) (st := [.int (nI ((k / (3 ^ i)) % 3)), .int (nI (zcn k i))]) (k_X6_power hI N 10 i (by omega)) zw_712 zy_X6_power ⟨rfl, rfl⟩ (by decide) rfl rfl (Nat.le_of_ble_eq_true rfl) dX6_next_77 ?_
                rintro _ M77 ⟨v77, rfl, q77⟩
                obtain ⟨rfl, q77⟩ := q77
                rw [q77]
                show zJ E x 80 _ [.int (nI (10 ^ i)), .int (nI ((k / (3 ^ i)) % 3)), .int (nI (zcn k i))] _
                refine z_imul_n hx dX6_next_80 ?_
                refine z_iadd_n hx dX6_next_81 ?_
                refine z_istore hx (lv2 := [(8, .int (nI ((zcn k i) + (((k / (3 ^ i)) % 3) * (10 ^ i))))), (9, .int (nI i)), (7, .int (nI k)), (5, .long (Int64.ofInt (zrl (zbest (zqm (w, n, mm, cd, rd) d) k)))), (3, .long (Int64.ofInt (zru (zbest (zqm (w, n, mm, cd, rd) d) k)))), (2, .int (zcb (w + 1) (zbest (zqm (w, n, mm, cd, rd) d) k))), (0, .ref (E.2.2.2 32)), (1, .int (zdr d))]) dX6_next_82 (by decide) rfl ?_
                refine z_iinc hx (w := nI (i + 1)) (lv2 := [(9, .int (nI (i + 1))), (8, .int (nI ((zcn k i) + (((k / (3 ^ i)) % 3) * (10 ^ i))))), (7, .int (nI k)), (5, .long (Int64.ofInt (zrl (zbest (zqm (w, n, mm, cd, rd) d) k)))), (3, .long (Int64.ofInt (zru (zbest (zqm (w, n, mm, cd, rd) d) k)))), (2, .int (zcb (w + 1) (zbest (zqm (w, n, mm, cd, rd) d) k))), (0, .ref (E.2.2.2 32)), (1, .int (zdr d))]) 1 dX6_next_84 rfl (z_inc _) (by decide) rfl ?_
                refine z_goto (tgt := 51) hx dX6_next_87 (by decide) ?_
                exact z_to (ih51 (i + 1) (by omega) (by omega)) [0, 1, 2, 3, 4, 5, 6, 7] rfl rfl
          exact z_to (loop51 _ 0 (Nat.zero_le _) (Nat.lt_succ_self _)) [0, 1, 2, 3, 4, 5, 6, 7] rfl rfl
    exact z_to (loop30 _ 0 (zputI M 32 0 (nI 0)) (Nat.zero_le _) (zfm_rf _ _ _) (Nat.lt_succ_self _)) [0, 1, 2, 3, 4, 5] (by rw [show (0 : Int64) = Int64.ofInt (zru none) by decide +kernel, show (1 : Int64) = Int64.ofInt (zrl none) by decide +kernel]; rfl) rfl
  · skip
    refine z_bipush hx (v := (-4)) dX6_next_16 rfl ?_
    exact ri _ _ _ _ rfl ⟨_, rfl, ⟨by rw [zop_next, if_pos (by show 8 ≤ n; omega)], zMs_t hσ2, zfN_t⟩⟩ dX6_next_18
