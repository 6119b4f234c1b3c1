/-- a page of the reference holds the room, its weights too -/
def zPr (M : zM) (p : Nat) (r : zRo) : Prop := M.1 32 4 = nI r.1 ∧ zPf (M.1 p) r ∧ zVr r
theorem zPr_fr {cs ks : Nat → Prop} {M N : zM} {p : Nat} {r : zRo} (h : zPr M p r) (hf : zfm cs ks M N) (hp : zPc p) (h1 : ¬ cs p) (h2 : ¬ ks 4) : zPr N p r := ⟨(hf.2 4 h2).1.trans h.1, by rw [(zfm_c hf (by have := hp.1; omega) h1).1]; exact h.2.1, h.2.2⟩
theorem zpan_v : ∀ g, g < 10 → g ≤ 2 → (if g = 1 then nI 1 else if g = 2 then -1 else nI 0) = Int32.ofInt (zsgd g) := by decide +kernel
theorem zsgd_1 : nI 1 = Int32.ofInt (zsgd 1) := by decide +kernel
theorem zsgd_2 : (-1 : Int32) = Int32.ofInt (zsgd 2) := by decide +kernel
theorem zsgd_0 : nI 0 = Int32.ofInt (zsgd 0) := by decide +kernel
theorem zcode_top {w c : Nat} (h : zcode w c) : c / 10 ^ w % 10 = c / 10 ^ w := by
  refine Nat.mod_eq_of_lt ?_
  have := h.1
  rw [Nat.pow_succ, Nat.mul_comm] at this
  exact Nat.div_lt_of_lt_mul (by rw [Nat.mul_comm]; exact this)
set_option maxHeartbeats 4000000 in
set_option maxRecDepth 100000 in
theorem k_X6_panOf {E : zE} (hI : zI E) (M : zM) {w : Nat} (hW : M.1 32 4 = nI w) (hw4 : w ≤ 4) {c k : Nat} (hc : zcode w c) (hk : k ≤ w) : zK E yX6_panOf (.code yX6_panOf cX6_panOf 4 (some .int)) (zrm 1 23) [.ref (E.2.2.2 32), .int (nI c), .int (nI k)] M (zpi (fun v M2 => v = Int32.ofInt (zsgd (c / 10 ^ (w - k) % 10)) ∧ M2 = M)) := by
  refine zK_of hI (by decide) (Nat.le_of_ble_eq_true rfl) (fun x hx ri rz rl rv => ?_)
  show zJ E x 0 [(0, .ref (E.2.2.2 32)), (1, .int (nI c)), (2, .int (nI k))] [] M
  have hpk := zp10 (n := w - k) (by omega)
  have hc5 := zcode_5 hw4 hc
  have hdk := Nat.div_le_self c (10 ^ (w - k))
  have hd2 := hc.2 (w - k) (by omega)
  refine z_iload_n hx 1 dX6_panOf_0 rfl rfl ?_
  refine z_bipush hx (v := nI 10) dX6_panOf_1 (by decide +kernel) ?_
  refine z_aload_n hx 0 dX6_panOf_3 rfl rfl ?_
  refine zg_X6_4 hx zw_580 dX6_panOf_4 ?_
  refine z_eqi (b := nI w) hW ?_
  refine z_iload_n hx 2 dX6_panOf_7 rfl rfl ?_
  refine z_isub_n hx (by omega) dX6_panOf_8 ?_
  refine z_callS hx (As := [.int (nI 10), .int (nI (w - k))]) (st := [.int (nI c)]) (k_X6_power hI M 10 (w - k) (by omega)) zw_712 zy_X6_power ⟨rfl, rfl⟩ (by decide) rfl rfl (Nat.le_of_ble_eq_true rfl) dX6_panOf_9 ?_
  rintro _ M9 ⟨v9, rfl, q9⟩
  obtain ⟨rfl, q9⟩ := q9
  rw [q9]
  show zJ E x 12 _ [.int (nI (10 ^ (w - k))), .int (nI c)] _
  refine z_idiv_n hx (by omega) (by omega) (by omega) dX6_panOf_12 ?_
  refine z_bipush hx (v := nI 10) dX6_panOf_13 (by decide +kernel) ?_
  refine z_irem_n hx (by omega) (by omega) (by omega) dX6_panOf_15 ?_
  refine z_istore_n hx (lv2 := [(3, .int (nI ((c / (10 ^ (w - k))) % 10))), (0, .ref (E.2.2.2 32)), (1, .int (nI c)), (2, .int (nI k))]) dX6_panOf_16 rfl (by decide) rfl ?_
  refine z_iload_n hx 0 dX6_panOf_17 rfl rfl ?_
  refine z_iconst hx (v := nI 1) dX6_panOf_18 (by decide +kernel) ?_
  refine z_icmp_ne_n (tgt := 26) hx (by omega) (by omega) dX6_panOf_19 (by decide) (fun h19 => ?_) (fun h19 => ?_)
  · skip
    refine z_iload_n hx 0 dX6_panOf_26 rfl rfl ?_
    refine z_iconst hx (v := nI 2) dX6_panOf_27 (by decide +kernel) ?_
    refine z_icmp_ne_n (tgt := 35) hx (by omega) (by omega) dX6_panOf_28 (by decide) (fun h28 => ?_) (fun h28 => ?_)
    · skip
      refine z_iconst hx (v := nI 0) dX6_panOf_35 (by decide +kernel) ?_
      exact ri _ _ _ _ rfl ⟨_, rfl, ⟨by rw [show c / 10 ^ (w - k) % 10 = 0 by omega]; exact zsgd_0, rfl⟩⟩ dX6_panOf_36
    · skip
      refine z_iconst hx (v := (-1)) dX6_panOf_31 rfl ?_
      refine z_goto (tgt := 36) hx dX6_panOf_32 (by decide) ?_
      exact ri _ _ _ _ rfl ⟨_, rfl, ⟨by rw [h28]; exact zsgd_2, rfl⟩⟩ dX6_panOf_36
  · skip
    refine z_iconst hx (v := nI 1) dX6_panOf_22 (by decide +kernel) ?_
    refine z_goto (tgt := 36) hx dX6_panOf_23 (by decide) ?_
    exact ri _ _ _ _ rfl ⟨_, rfl, ⟨by rw [h19]; exact zsgd_1, rfl⟩⟩ dX6_panOf_36
set_option maxHeartbeats 4000000 in
set_option maxRecDepth 100000 in
theorem k_X6_pureOf {E : zE} (hI : zI E) (M : zM) {p w n mm : Nat} {cd : Nat → Nat} {rd : Nat → Int} (hp : zPc p) (hR : zPr M p (w, n, mm, cd, rd)) {t : Nat} (ht : t < n) (z : Int) : zK E yX6_pureOf (.code yX6_pureOf cX6_pureOf 3 (some .int)) (zrm 0 0) [.ref (E.2.2.2 p), .int (nI t), .int (Int32.ofInt z)] M (zpi (fun v M2 => v = Int32.ofInt (rd t - z * mm) ∧ M2 = M)) := by
  refine zK_of hI (by decide) (Nat.le_of_ble_eq_true rfl) (fun x hx ri rz rl rv => ?_)
  show zJ E x 0 [(0, .ref (E.2.2.2 p)), (1, .int (nI t)), (2, .int (Int32.ofInt z))] [] M
  have hp2 := id hp
  unfold zPc at hp2
  have hW : M.1 32 4 = nI w := hR.1
  have hP0 : M.1 p 0 = nI mm := hR.2.1.1
  have hP1 : M.1 p 1 = nI n := hR.2.1.2.1
  have hPt : ∀ t, t < n → M.1 p (2 + t) = nI (cd t) ∧ M.1 p (10 + t) = Int32.ofInt (rd t) := hR.2.1.2.2
  have hw4 : 1 ≤ w ∧ w ≤ 4 := hR.2.2.1
  have hmm9 : mm ≤ 99 := hR.2.2.2.1
  have hn8 : n ≤ 8 := hR.2.2.2.2.1
  have hV : ∀ t, t < n → zcode w (cd t) ∧ -1000 ≤ rd t ∧ rd t ≤ 1000 := hR.2.2.2.2.2
  refine z_aload_n hx 0 dX6_pureOf_0 rfl rfl ?_
  refine z_bipush hx (v := nI 10) dX6_pureOf_1 (by decide +kernel) ?_
  refine z_iload_n hx 1 dX6_pureOf_3 rfl rfl ?_
  refine z_iadd_n hx dX6_pureOf_4 ?_
  refine z_iald_n hx (zIA_p hp E) (by omega) dX6_pureOf_5 ?_
  refine z_eqi (b := Int32.ofInt (rd t)) (hPt t (by omega)).2 ?_
  refine z_iload_n hx 2 dX6_pureOf_6 rfl rfl ?_
  refine z_aload_n hx 0 dX6_pureOf_7 rfl rfl ?_
  refine z_iconst hx (v := nI 0) dX6_pureOf_8 (by decide +kernel) ?_
  refine z_iald_n hx (zIA_p hp E) (by omega) dX6_pureOf_9 ?_
  refine z_eqi (b := nI mm) hP0 ?_
  refine z_imul hx dX6_pureOf_10 ?_
  refine z_isub hx dX6_pureOf_11 ?_
  exact ri _ _ _ _ rfl ⟨_, rfl, ⟨by rw [znI_ofInt, ← Int32.ofInt_mul, ← Int32.ofInt_sub], rfl⟩⟩ dX6_pureOf_12
set_option maxHeartbeats 4000000 in
set_option maxRecDepth 100000 in
theorem k_X6_layColumns {E : zE} (hI : zI E) (M : zM) {p w n mm : Nat} {cd : Nat → Nat} {rd : Nat → Int} (hp : zPc p) (hR : zPr M p (w, n, mm, cd, rd)) {t : Nat} (ht : t < n) (d : Bool) : zK E yX6_layColumns (.code yX6_layColumns cX6_layColumns 5 none) (zrm 2 46) [.ref (E.2.2.2 32), .ref (E.2.2.2 p), .int (nI t), .int (zdr d)] M (zpv (fun M2 => (∀ j, j < zunk w d → M2.1 45 j = Int32.ofInt (zLn w mm d (cd t) (rd t) t j)) ∧ zfr (fun c => c = 45) M M2)) := by
  refine zK_of hI (by decide) (Nat.le_of_ble_eq_true rfl) (fun x hx ri rz rl rv => ?_)
  show zJ E x 0 [(0, .ref (E.2.2.2 32)), (1, .ref (E.2.2.2 p)), (2, .int (nI t)), (3, .int (zdr d))] [] M
  have hp2 := id hp
  unfold zPc at hp2
  have hW : M.1 32 4 = nI w := hR.1
  have hP0 : M.1 p 0 = nI mm := hR.2.1.1
  have hP1 : M.1 p 1 = nI n := hR.2.1.2.1
  have hPt : ∀ t, t < n → M.1 p (2 + t) = nI (cd t) ∧ M.1 p (10 + t) = Int32.ofInt (rd t) := hR.2.1.2.2
  have hw4 : 1 ≤ w ∧ w ≤ 4 := hR.2.2.1
  have hmm9 : mm ≤ 99 := hR.2.2.2.1
  have hn8 : n ≤ 8 := hR.2.2.2.2.1
  have hV : ∀ t, t < n → zcode w (cd t) ∧ -1000 ≤ rd t ∧ rd t ≤ 1000 := hR.2.2.2.2.2
  refine z_iconst hx (v := nI 0) dX6_layColumns_0 (by decide +kernel) ?_
  refine z_istore hx (lv2 := [(4, .int (nI 0)), (0, .ref (E.2.2.2 32)), (1, .ref (E.2.2.2 p)), (2, .int (nI t)), (3, .int (zdr d))]) dX6_layColumns_1 (by decide) rfl ?_
  have loop3 : ∀ (fuel3 : Nat) (i : Nat) (N : zM) (_ : i ≤ w) (_ : zfr (fun c => c = 45) M N) (_ : ∀ j, j < i → N.1 45 j = Int32.ofInt (zLn w mm d (cd t) (rd t) t j)), w - i < fuel3 → zJ E x 3 [(4, .int (nI i)), (0, .ref (E.2.2.2 32)), (1, .ref (E.2.2.2 p)), (2, .int (nI t)), (3, .int (zdr d))] [] N := by
    intro fuel3
    induction fuel3 with
    | zero =>
      intros; omega
    | succ fuel3 ih3 =>
      intro i N hi hNf hN hfuel3
      refine z_iload hx 0 dX6_layColumns_3 rfl ?_
      refine z_aload_n hx 1 dX6_layColumns_5 rfl rfl ?_
      refine zg_X6_4 hx zw_580 dX6_layColumns_6 ?_
      refine z_eqi (b := nI w) (by rw [(hNf 32 (by omega)).1]; exact hW) ?_
      refine z_icmp_ge_n (tgt := 38) hx (by omega) (by omega) dX6_layColumns_9 (by decide) (fun h9 => ?_) (fun h9 => ?_)
      · skip
        refine z_iload_n hx 4 dX6_layColumns_38 rfl rfl ?_
        refine z_if_eq_d (tgt := 52) hx dX6_layColumns_39 (by decide) (fun h39 => ?_) (fun h39 => ?_)
        · skip
          have hdt : d = false := h39
          exact rv _ _ _ rfl ⟨rfl, ⟨fun j hj => hN j (by rw [hdt] at hj; have hj2 : j < w := hj; omega), hNf⟩⟩ dX6_layColumns_52
        · skip
          have hdt : d = true := h39
          refine z_aload_n hx 1 dX6_layColumns_42 rfl rfl ?_
          refine zg_X6_21 hx zw_597 dX6_layColumns_43 ?_
          refine z_aload_n hx 1 dX6_layColumns_46 rfl rfl ?_
          refine zg_X6_4 hx zw_580 dX6_layColumns_47 ?_
          refine z_eqi (b := nI w) (by rw [(hNf 32 (by omega)).1]; exact hW) ?_
          refine z_iload_n hx 3 dX6_layColumns_50 rfl rfl ?_
          refine z_iast_n hx (zIA_45 E) (by omega) dX6_layColumns_51 ?_
          exact rv _ _ _ rfl ⟨rfl, ⟨fun j hj => by
              rw [zg_putI]
              have hj2 : j < w + 1 := by rw [hdt] at hj; exact hj
              by_cases e : j = w
              · rw [if_pos ⟨rfl, e⟩]
                unfold zLn
                rw [if_neg (by omega), if_pos ⟨hdt, e⟩]
                exact znI_ofInt t
              · rw [if_neg (fun z => e z.2)]
                exact hN j (by omega), zfr_tr hNf (zfr_putI rfl)⟩⟩ dX6_layColumns_52
      · skip
        refine z_aload_n hx 1 dX6_layColumns_12 rfl rfl ?_
        refine zg_X6_21 hx zw_597 dX6_layColumns_13 ?_
        refine z_iload hx 0 dX6_layColumns_16 rfl ?_
        refine z_aload_n hx 1 dX6_layColumns_18 rfl rfl ?_
        refine z_aload_n hx 2 dX6_layColumns_19 rfl rfl ?_
        refine z_iconst hx (v := nI 2) dX6_layColumns_20 (by decide +kernel) ?_
        refine z_iload_n hx 3 dX6_layColumns_21 rfl rfl ?_
        refine z_iadd_n hx dX6_layColumns_22 ?_
        refine z_iald_n hx (zIA_p hp E) (by omega) dX6_layColumns_23 ?_
        refine z_eqi (b := nI (cd t)) (by rw [(hNf p (by omega)).1]; exact (hPt t ht).1) ?_
        refine z_iload hx 0 dX6_layColumns_24 rfl ?_
        refine z_iconst hx (v := nI 1) dX6_layColumns_26 (by decide +kernel) ?_
        refine z_iadd_n hx dX6_layColumns_27 ?_
        refine z_callV hx (As := [.int (nI (cd t)), .int (nI (i + 1))]) (st := [.int (nI i), .ref (E.2.2.2 45)]) (k_X6_panOf hI N (w := w) (by rw [(hNf 32 (by omega)).1]; exact hW) (by omega) (c := cd t) (k := i + 1) (hV t ht).1 (by omega)) zw_770 zy_X6_panOf ⟨rfl, rfl⟩ (by decide) (zOB_X6 E) rfl rfl rfl rfl (Nat.le_of_ble_eq_true rfl) dX6_layColumns_28 ?_
        rintro _ M28 ⟨v28, rfl, q28⟩
        obtain ⟨rfl, q28⟩ := q28
        rw [q28]
        show zJ E x 31 _ [.int (Int32.ofInt (zsgd ((cd t) / 10 ^ (w - (i + 1)) % 10))), .int (nI i), .ref (E.2.2.2 45)] _
        refine z_iast_n hx (zIA_45 E) (by omega) dX6_layColumns_31 ?_
        refine z_iinc hx (w := nI (i + 1)) (lv2 := [(4, .int (nI (i + 1))), (0, .ref (E.2.2.2 32)), (1, .ref (E.2.2.2 p)), (2, .int (nI t)), (3, .int (zdr d))]) 0 dX6_layColumns_32 rfl (z_inc _) (by decide) rfl ?_
        refine z_goto (tgt := 3) hx dX6_layColumns_35 (by decide) ?_
        exact z_to (ih3 (i + 1) (zputI N 45 i (Int32.ofInt (zsgd ((cd t) / 10 ^ (w - (i + 1)) % 10)))) (by omega) (zfr_tr hNf (zfr_putI rfl)) (fun j hj => by
            rw [zg_putI]
            by_cases e : j = i
            · subst e
              rw [if_pos ⟨rfl, rfl⟩]
              unfold zLn zdig
              rw [if_pos (by omega), show w - (j + 1) = w - 1 - j by omega]
            · rw [if_neg (by omega)]
              exact hN j (by omega)) (by omega)) [0, 1, 2, 3, 4] rfl rfl
  exact z_to (loop3 _ 0 M (by omega) (zfr_rf _ _) (fun j hj => by omega) (Nat.lt_succ_self _)) [0, 1, 2, 3, 4] rfl rfl
def zst (s k : Nat) : Bool := decide (s / 2 ^ k % 2 = 1)
/-- the table of sums lies in the reference's cells -/
def zGt (N : zM) (u : Nat) (G : Nat → Nat → Int) : Prop := N.1 32 15 = nI u ∧ (∀ i j, i < u → j < u → N.2 41 (5 * i + j) = Int64.ofInt (G i j)) ∧ (∀ i, i < u → N.2 42 i = Int64.ofInt (G i u)) ∧ N.2 32 18 = Int64.ofInt (G u u)
def zGj (N : zM) (u : Nat) (G H : Nat → Nat → Int) (i e j : Nat) : Prop := N.1 32 15 = nI u ∧ (∀ a b, a < u → b < u → N.2 41 (5 * a + b) = Int64.ofInt (if a < i ∨ (a = i ∧ b < j) then H a b else G a b)) ∧ (∀ a, a < u → N.2 42 a = Int64.ofInt (if a < e then H a u else G a u)) ∧ N.2 32 18 = Int64.ofInt (H u u)
theorem zGj_0 {N : zM} {u : Nat} {G H : Nat → Nat → Int} {v : Int64} (h : zGt N u G) (hv : v = Int64.ofInt (H u u)) : zGj (zputJ N 32 18 v) u G H 0 0 0 := by
  refine ⟨h.1, fun a b ha hb => ?_, fun a ha => ?_, ?_⟩
  · rw [if_neg (by omega)]
    exact zskJ (by omega) (h.2.1 a b ha hb)
  · rw [if_neg (by omega)]
    exact zskJ (by omega) (h.2.2.1 a ha)
  · rw [hv]; exact zhtJ
theorem zGj_r {N : zM} {u i : Nat} {G H : Nat → Nat → Int} {v : Int64} (h : zGj N u G H i i 0) (hv : v = Int64.ofInt (H i u)) : zGj (zputJ N 42 i v) u G H i (i + 1) 0 := by
  refine ⟨h.1, fun a b ha hb => zskJ (by omega) (h.2.1 a b ha hb), fun a ha => ?_, zskJ (by omega) h.2.2.2⟩
  rw [zg_putJ]
  by_cases e : a = i
  · rw [if_pos ⟨rfl, e⟩, if_pos (by omega), hv, e]
  · rw [if_neg (fun z => e z.2), h.2.2.1 a ha]
    congr 1
    by_cases q : a < i
    · rw [if_pos q, if_pos (by omega)]
    · rw [if_neg q, if_neg (by omega)]
theorem zGj_g {N : zM} {u i j : Nat} {G H : Nat → Nat → Int} {v : Int64} (hu : u ≤ 5) (hj : j < u) (h : zGj N u G H i (i + 1) j) (hv : v = Int64.ofInt (H i j)) : zGj (zputJ N 41 (5 * i + j) v) u G H i (i + 1) (j + 1) := by
  refine ⟨h.1, fun a b ha hb => ?_, fun a ha => zskJ (by omega) (h.2.2.1 a ha), zskJ (by omega) h.2.2.2⟩
  rw [zg_putJ]
  by_cases e : a = i ∧ b = j
  · rw [if_pos ⟨rfl, by rw [e.1, e.2]⟩, if_pos (by omega), hv, e.1, e.2]
  · rw [if_neg (by omega), h.2.1 a b ha hb]
    congr 1
    by_cases q : a < i ∨ (a = i ∧ b < j)
    · rw [if_pos q, if_pos (by omega)]
    · rw [if_neg q, if_neg (by omega)]
theorem zGj_n {N : zM} {u i j : Nat} {G H : Nat → Nat → Int} (hj : u ≤ j) (h : zGj N u G H i (i + 1) j) : zGj N u G H (i + 1) (i + 1) 0 := by
  refine ⟨h.1, fun a b ha hb => ?_, h.2.2⟩
  rw [h.2.1 a b ha hb]
  congr 1
  by_cases q : a < i ∨ (a = i ∧ b < j)
  · rw [if_pos q, if_pos (by omega)]
  · rw [if_neg q, if_neg (by omega)]
theorem zGj_e {N : zM} {u i : Nat} {G H : Nat → Nat → Int} (hi : u ≤ i) (h : zGj N u G H i i 0) : zGt N u H := by
  refine ⟨h.1, fun a b ha hb => ?_, fun a ha => ?_, h.2.2.2⟩
  · rw [h.2.1 a b ha hb, if_pos (by omega)]
  · rw [h.2.2.1 a ha, if_pos (by omega)]
theorem zGt_fr {cs ks : Nat → Prop} {M N : zM} {u : Nat} {G : Nat → Nat → Int} (h : zGt M u G) (hf : zfm cs ks M N) (h41 : ¬ cs 41) (h42 : ¬ cs 42) (k15 : ¬ ks 15) (k18 : ¬ ks 18) : zGt N u G := ⟨(hf.2 15 k15).1.trans h.1, by rw [(zfm_c hf (by omega) h41).2]; exact h.2.1, by rw [(zfm_c hf (by omega) h42).2]; exact h.2.2.1, (hf.2 18 k18).2.trans h.2.2.2⟩
theorem zGr_s {w mm : Nat} {d : Bool} {cd : Nat → Nat} {rd : Nat → Int} {t : Nat} {S : Nat → Bool} (h : S t = true) (p q : Nat) : zGr w mm d cd rd (t + 1) S p q = zGr w mm d cd rd t S p q + zLn w mm d (cd t) (rd t) t p * zLn w mm d (cd t) (rd t) t q := by
  unfold zGr
  rw [zS, if_pos h]
theorem zGr_n {w mm : Nat} {d : Bool} {cd : Nat → Nat} {rd : Nat → Int} {t : Nat} {S : Nat → Bool} (h : S t = false) : zGr w mm d cd rd (t + 1) S = zGr w mm d cd rd t S := by
  funext p q
  unfold zGr
  rw [zS, if_neg (by rw [h]; decide), Int.add_zero]
theorem zLn_u (w mm : Nat) (d : Bool) (c : Nat) (r : Int) (t : Nat) : zLn w mm d c r t (zunk w d) = r - zsgd (c / 10 ^ w) * mm := by
  unfold zLn
  rw [if_neg (by unfold zunk; split <;> omega), if_neg (by unfold zunk; rintro ⟨rfl, z⟩; simp at z)]
theorem zlnw {w mm : Nat} {d : Bool} {c : Nat} {r : Int} {t : Nat} (hc : zcode w c) (ht : t < 8) (i : Nat) (hi : i < zunk w d) : (Int32.ofInt (zLn w mm d c r t i)).toInt64 = Int64.ofInt (zLn w mm d c r t i) := by
  have h := zLn_ab (mm := mm) (d := d) (r := r) hc ht i hi
  unfold zab at h
  exact zi32 (by omega) (by omega)
theorem zlnw2 {w mm : Nat} {d : Bool} {c : Nat} {r : Int} {t : Nat} (hc : zcode w c) (ht : t < 8) (i : Nat) (hi : i < zunk w d) (j : Nat) (hj : j < zunk w d) : (Int32.ofInt (zLn w mm d c r t i) * Int32.ofInt (zLn w mm d c r t j)).toInt64 = Int64.ofInt (zLn w mm d c r t i * zLn w mm d c r t j) := by
  have h := zab_mul2 (by decide) (by decide) (zLn_ab (mm := mm) (d := d) (r := r) hc ht i hi) (zLn_ab (mm := mm) (d := d) (r := r) hc ht j hj)
  unfold zab at h
  rw [← Int32.ofInt_mul]
  exact zi32 (by omega) (by omega)
set_option maxHeartbeats 4000000 in
set_option maxRecDepth 100000 in
theorem k_X6_layGram {E : zE} (hI : zI E) (M : zM) {p w n mm : Nat} {cd : Nat → Nat} {rd : Nat → Int} (hp : zPc p) (hR : zPr M p (w, n, mm, cd, rd)) {s : Nat} (hs : s < 256) (d : Bool) : zK E yX6_layGram (.code yX6_layGram cX6_layGram 9 none) (zrm 3 70) [.ref (E.2.2.2 32), .ref (E.2.2.2 p), .int (nI s), .int (zdr d)] M (zpv (fun M2 => zGt M2 (zunk w d) (zGm (w, n, mm, cd, rd) d (zst s)) ∧ zfm (fun c => c = 41 ∨ c = 42 ∨ c = 45) (fun k => k = 15 ∨ k = 18) M M2)) := by
  refine zK_of hI (by decide) (Nat.le_of_ble_eq_true rfl) (fun x hx ri rz rl rv => ?_)
  show zJ E x 0 [(0, .ref (E.2.2.2 32)), (1, .ref (E.2.2.2 p)), (2, .int (nI s)), (3, .int (zdr d))] [] M
  have hp2 := id hp
  unfold zPc at hp2
  have hW : M.1 32 4 = nI w := hR.1
  have hP0 : M.1 p 0 = nI mm := hR.2.1.1
  have hP1 : M.1 p 1 = nI n := hR.2.1.2.1
  have hPt : ∀ t, t < n → M.1 p (2 + t) = nI (cd t) ∧ M.1 p (10 + t) = Int32.ofInt (rd t) := hR.2.1.2.2
  have hw4 : 1 ≤ w ∧ w ≤ 4 := hR.2.2.1
  have hmm9 : mm ≤ 99 := hR.2.2.2.1
  have hn8 : n ≤ 8 := hR.2.2.2.2.1
  have hV : ∀ t, t < n → zcode w (cd t) ∧ -1000 ≤ rd t ∧ rd t ≤ 1000 := hR.2.2.2.2.2
  have hu := zunk_le hw4.2 d
  refine z_aload_n hx 0 dX6_layGram_0 rfl rfl ?_
  refine z_iload_n hx 3 dX6_layGram_1 rfl rfl ?_
  refine z_if_eq_d (tgt := 14) hx dX6_layGram_2 (by decide) (fun h2 => ?_) (fun h2 => ?_)
  · skip
    have hdt : zunk w d = w := by rw [h2]; rfl
    refine z_aload_n hx 0 dX6_layGram_14 rfl rfl ?_
    refine zg_X6_4 hx zw_580 dX6_layGram_15 ?_
    refine z_eqi (b := nI w) hW ?_
    refine zp_X6_15 hx zw_591 dX6_layGram_18 ?_
    refine z_aload_n hx 0 dX6_layGram_21 rfl rfl ?_
    refine z_lconst hx (v := 0) dX6_layGram_22 rfl ?_
    refine zp_X6_18 hx zw_594 dX6_layGram_23 ?_
    refine z_iconst hx (v := nI 0) dX6_layGram_26 (by decide +kernel) ?_
    refine z_istore hx (lv2 := [(4, .int (nI 0)), (0, .ref (E.2.2.2 32)), (1, .ref (E.2.2.2 p)), (2, .int (nI s)), (3, .int (zdr d))]) dX6_layGram_27 (by decide) rfl ?_
    have loop29 : ∀ (fuel29 : Nat) (k : Nat) (N : zM) (_ : k ≤ 25) (_ : zfm (fun c => c = 41 ∨ c = 42 ∨ c = 45) (fun k => k = 15 ∨ k = 18) M N) (_ : N.1 32 15 = nI (zunk w d)) (_ : N.2 32 18 = Int64.ofInt 0) (_ : ∀ j, j < k → N.2 41 j = Int64.ofInt 0), 25 - k < fuel29 → zJ E x 29 [(4, .int (nI k)), (0, .ref (E.2.2.2 32)), (1, .ref (E.2.2.2 p)), (2, .int (nI s)), (3, .int (zdr d))] [] N := by
      intro fuel29
      induction fuel29 with
      | zero =>
        intros; omega
      | succ fuel29 ih29 =>
        intro k N hk hNf hNu hNq hN0 hfuel29
        refine z_iload hx 0 dX6_layGram_29 rfl ?_
        refine z_bipush hx (v := nI 25) dX6_layGram_31 (by decide +kernel) ?_
        refine z_icmp_ge_n (tgt := 50) hx (by omega) (by omega) dX6_layGram_33 (by decide) (fun h33 => ?_) (fun h33 => ?_)
        · skip
          refine z_iconst hx (v := nI 0) dX6_layGram_50 (by decide +kernel) ?_
          refine z_istore hx (lv2 := [(4, .int (nI 0)), (0, .ref (E.2.2.2 32)), (1, .ref (E.2.2.2 p)), (2, .int (nI s)), (3, .int (zdr d))]) dX6_layGram_51 (by decide) rfl ?_
          have loop53 : ∀ (fuel53 : Nat) (i : Nat) (K : zM) (_ : i ≤ 5) (_ : zfm (fun c => c = 41 ∨ c = 42 ∨ c = 45) (fun k => k = 15 ∨ k = 18) M K) (_ : K.1 32 15 = nI (zunk w d)) (_ : K.2 32 18 = Int64.ofInt 0) (_ : ∀ j, j < 25 → K.2 41 j = Int64.ofInt 0) (_ : ∀ j, j < i → K.2 42 j = Int64.ofInt 0), 5 - i < fuel53 → zJ E x 53 [(4, .int (nI i)), (0, .ref (E.2.2.2 32)), (1, .ref (E.2.2.2 p)), (2, .int (nI s)), (3, .int (zdr d))] [] K := by
            intro fuel53
            induction fuel53 with
            | zero =>
              intros; omega
            | succ fuel53 ih53 =>
              intro i K hi hKf hKu hKq hK0 hK1 hfuel53
              refine z_iload hx 0 dX6_layGram_53 rfl ?_
              refine z_iconst hx (v := nI 5) dX6_layGram_55 (by decide +kernel) ?_
              refine z_icmp_ge_n (tgt := 73) hx (by omega) (by omega) dX6_layGram_56 (by decide) (fun h56 => ?_) (fun h56 => ?_)
              · skip
                refine z_iconst hx (v := nI 0) dX6_layGram_73 (by decide +kernel) ?_
                refine z_istore hx (lv2 := [(4, .int (nI 0)), (0, .ref (E.2.2.2 32)), (1, .ref (E.2.2.2 p)), (2, .int (nI s)), (3, .int (zdr d))]) dX6_layGram_74 (by decide) rfl ?_
                have loop76 : ∀ (fuel76 : Nat) (t : Nat) (T : zM) (_ : t ≤ n) (_ : zfm (fun c => c = 41 ∨ c = 42 ∨ c = 45) (fun k => k = 15 ∨ k = 18) M T) (_ : zGt T (zunk w d) (zGr w mm d cd rd t (zst s))), n - t < fuel76 → zJ E x 76 [(4, .int (nI t)), (0, .ref (E.2.2.2 32)), (1, .ref (E.2.2.2 p)), (2, .int (nI s)), (3, .int (zdr d))] [] T := by
                  intro fuel76
                  induction fuel76 with
                  | zero =>
                    intros; omega
                  | succ fuel76 ih76 =>
                    intro t T htn hTf hTg hfuel76
                    refine z_iload hx 0 dX6_layGram_76 rfl ?_
                    refine z_aload_n hx 2 dX6_layGram_78 rfl rfl ?_
                    refine z_iconst hx (v := nI 1) dX6_layGram_79 (by decide +kernel) ?_
                    refine z_iald_n hx (zIA_p hp E) (by omega) dX6_layGram_80 ?_
                    refine z_eqi (b := nI n) (by rw [(zfm_c hTf (c := p) (by omega) (by omega)).1]; exact hP1) ?_
                    refine z_icmp_ge_n (tgt := 229) hx (by omega) (by omega) dX6_layGram_81 (by decide) (fun h81 => ?_) (fun h81 => ?_)
                    · skip
                      exact rv _ _ _ rfl ⟨rfl, ⟨by rw [show t = n by omega] at hTg; exact hTg, hTf⟩⟩ dX6_layGram_229
                    · skip
                      refine z_iload_n hx 3 dX6_layGram_84 rfl rfl ?_
                      refine z_iload hx 0 dX6_layGram_85 rfl ?_
                      refine z_callS hx (As := [.int (nI s), .int (nI t)]) (st := []) (k_X6_has hI T s t (by omega) (by omega)) zw_763 zy_X6_has ⟨rfl, rfl⟩ (by decide) rfl rfl (Nat.le_of_ble_eq_true rfl) dX6_layGram_87 ?_
                      rintro _ M87 ⟨v87, rfl, q87⟩
                      obtain ⟨q87, hmm⟩ := q87
                      rw [hmm]
                      rcases q87 with ⟨q87, rfl⟩ | ⟨q87, rfl⟩
                      · skip
                        show zJ E x 90 _ [.int (nI 1)] _
                        refine z_if_eq_n (tgt := 223) hx (by decide) dX6_layGram_90 (by decide) (fun h => absurd h (by decide)) (fun _ => ?_)
                        refine z_aload_n hx 1 dX6_layGram_93 rfl rfl ?_
                        refine z_aload_n hx 2 dX6_layGram_94 rfl rfl ?_
                        refine z_iload hx 0 dX6_layGram_95 rfl ?_
                        refine z_iload_n hx 4 dX6_layGram_97 rfl rfl ?_
                        refine z_callV hx (As := [.ref (E.2.2.2 p), .int (nI t), .int (zdr d)]) (st := []) (k_X6_layColumns hI T hp (zPr_fr hR hTf hp (by omega) (by omega)) (t := t) (by omega) d) zw_766 zy_X6_layColumns ⟨rfl, rfl⟩ (by decide) (zOB_X6 E) rfl rfl rfl rfl (Nat.le_of_ble_eq_true rfl) dX6_layGram_98 ?_
                        rintro _ M98 ⟨rfl, q98⟩
                        show zJ E x 101 _ [] _
                        refine z_aload_n hx 2 dX6_layGram_101 rfl rfl ?_
                        refine z_iload hx 0 dX6_layGram_102 rfl ?_
                        refine z_aload_n hx 1 dX6_layGram_104 rfl rfl ?_
                        refine z_aload_n hx 2 dX6_layGram_105 rfl rfl ?_
                        refine z_iconst hx (v := nI 2) dX6_layGram_106 (by decide +kernel) ?_
                        refine z_iload hx 0 dX6_layGram_107 rfl ?_
                        refine z_iadd_n hx dX6_layGram_109 ?_
                        refine z_iald_n hx (zIA_p hp E) (by omega) dX6_layGram_110 ?_
                        refine z_eqi (b := nI (cd t)) (by rw [(q98.2 p (by omega)).1, (zfm_c hTf (c := p) (by omega) (by omega)).1]; exact (hPt t (by omega)).1) ?_
                        refine z_iconst hx (v := nI 0) dX6_layGram_111 (by decide +kernel) ?_
                        refine z_callV hx (As := [.int (nI (cd t)), .int (nI 0)]) (st := [.int (nI t), .ref (E.2.2.2 p)]) (k_X6_panOf hI M98 (w := w) (by rw [(q98.2 32 (by omega)).1]; exact (hTf.2 4 (by omega)).1.trans hW) (by omega) (c := cd t) (k := 0) (hV t (by omega)).1 (by omega)) zw_770 zy_X6_panOf ⟨rfl, rfl⟩ (by decide) (zOB_X6 E) rfl rfl rfl rfl (Nat.le_of_ble_eq_true rfl) dX6_layGram_112 ?_
                        rintro _ M112 ⟨v112, rfl, q112⟩
                        obtain ⟨rfl, q112⟩ := q112
                        rw [q112]
                        have hpz : cd t / 10 ^ (w - 0) % 10 = cd t / 10 ^ w := zcode_top (hV t (by omega)).1
                        rw [hpz]
                        show zJ E x 115 _ [.int (Int32.ofInt (zsgd (cd t / 10 ^ w))), .int (nI t), .ref (E.2.2.2 p)] _
                        refine z_callS hx (As := [.ref (E.2.2.2 p), .int (nI t), .int (Int32.ofInt (zsgd (cd t / 10 ^ w)))]) (st := []) (k_X6_pureOf hI M98 hp (zPr_fr (zPr_fr hR hTf hp (by omega) (by omega)) (zfm_of (ks := fun _ => False) q98.2 (by omega)) hp (by omega) (fun z => z)) (t := t) (by omega) (zsgd (cd t / 10 ^ w))) zw_774 zy_X6_pureOf ⟨rfl, rfl⟩ (by decide) rfl rfl (Nat.le_of_ble_eq_true rfl) dX6_layGram_115 ?_
                        rintro _ M115 ⟨v115, rfl, q115⟩
                        obtain ⟨rfl, q115⟩ := q115
                        rw [q115]
                        show zJ E x 118 _ [.int (Int32.ofInt (rd t - zsgd (cd t / 10 ^ w) * mm))] _
                        refine z_i2l hx dX6_layGram_118 ?_
                        have hSt : zst s t = true := decide_eq_true q87
                        have hVt := (hV t (by omega)).1
                        have hyb := zLn_y (d := d) (t := t) hVt (hV t (by omega)).2.1 (hV t (by omega)).2.2 hmm9
                        refine z_eql (b := Int64.ofInt (zLn w mm d (cd t) (rd t) t (zunk w d))) (by rw [← zLn_u w mm d (cd t) (rd t) t]; unfold zab at hyb; exact zi32 (by omega) (by omega)) ?_
                        refine z_lstore hx (lv2 := [(5, .long (Int64.ofInt (zLn w mm d (cd t) (rd t) t (zunk w d)))), (4, .int (nI t)), (0, .ref (E.2.2.2 32)), (1, .ref (E.2.2.2 p)), (2, .int (nI s)), (3, .int (zdr d))]) dX6_layGram_119 (by decide) rfl ?_
                        refine z_aload_n hx 2 dX6_layGram_121 rfl rfl ?_
                        refine z_dup hx dX6_layGram_122 rfl ?_
                        refine zg_X6_18 hx zw_594 dX6_layGram_123 ?_
                        refine z_lload hx 0 dX6_layGram_126 rfl ?_
                        refine z_lload hx 0 dX6_layGram_128 rfl ?_
                        refine z_lmul hx dX6_layGram_130 ?_
                        refine z_ladd hx dX6_layGram_131 ?_
                        refine zp_X6_18 hx zw_594 dX6_layGram_132 ?_
                        refine z_iconst hx (v := nI 0) dX6_layGram_135 (by decide +kernel) ?_
                        refine z_istore hx (lv2 := [(7, .int (nI 0)), (5, .long (Int64.ofInt (zLn w mm d (cd t) (rd t) t (zunk w d)))), (4, .int (nI t)), (0, .ref (E.2.2.2 32)), (1, .ref (E.2.2.2 p)), (2, .int (nI s)), (3, .int (zdr d))]) dX6_layGram_136 (by decide) rfl ?_
                        have loop138 : ∀ (fuel138 : Nat) (i : Nat) (Q : zM) (_ : i ≤ (zunk w d)) (_ : zfm (fun c => c = 41 ∨ c = 42 ∨ c = 45) (fun k => k = 15 ∨ k = 18) M Q) (_ : zGj Q (zunk w d) (zGr w mm d cd rd t (zst s)) (zGr w mm d cd rd (t + 1) (zst s)) i i 0) (_ : ∀ j, j < (zunk w d) → Q.1 45 j = Int32.ofInt (zLn w mm d (cd t) (rd t) t j)), (zunk w d) - i < fuel138 → zJ E x 138 [(7, .int (nI i)), (5, .long (Int64.ofInt (zLn w mm d (cd t) (rd t) t (zunk w d)))), (4, .int (nI t)), (0, .ref (E.2.2.2 32)), (1, .ref (E.2.2.2 p)), (2, .int (nI s)), (3, .int (zdr d))] [] Q := by
                          intro fuel138
                          induction fuel138 with
                          | zero =>
                            intros; omega
                          | succ fuel138 ih138 =>
                            intro i Q hi2 hQf hQg hQc hfuel138
                            refine z_iload hx 0 dX6_layGram_138 rfl ?_
                            refine z_aload_n hx 3 dX6_layGram_140 rfl rfl ?_
                            refine zg_X6_15 hx zw_591 dX6_layGram_141 ?_
                            refine z_eqi (b := nI (zunk w d)) hQg.1 ?_
                            refine z_icmp_ge_n (tgt := 223) hx (by omega) (by omega) dX6_layGram_144 (by decide) (fun h144 => ?_) (fun h144 => ?_)
                            · skip
                              refine z_iinc hx (w := nI (t + 1)) (lv2 := [(4, .int (nI (t + 1))), (7, .int (nI i)), (5, .long (Int64.ofInt (zLn w mm d (cd t) (rd t) t (zunk w d)))), (0, .ref (E.2.2.2 32)), (1, .ref (E.2.2.2 p)), (2, .int (nI s)), (3, .int (zdr d))]) 2 dX6_layGram_223 rfl (z_inc _) (by decide) rfl ?_
                              refine z_goto (tgt := 76) hx dX6_layGram_226 (by decide) ?_
                              exact z_to (ih76 (t + 1) Q (by omega) hQf (zGj_e (by omega) hQg) (by omega)) [0, 3, 4, 5, 6] rfl rfl
                            · skip
                              refine z_aload_n hx 3 dX6_layGram_147 rfl rfl ?_
                              refine zg_X6_17 hx zw_593 dX6_layGram_148 ?_
                              refine z_iload hx 0 dX6_layGram_151 rfl ?_
                              refine z_dup2_11 hx dX6_layGram_153 rfl rfl ?_
                              refine z_lald_n hx (zJA_42 E) (by omega) dX6_layGram_154 ?_
                              refine z_eql (b := Int64.ofInt ((zGr w mm d cd rd t (zst s)) i (zunk w d))) ((hQg.2.2.1 i (by omega)).trans (by rw [if_neg (by omega)])) ?_
                              refine z_aload_n hx 3 dX6_layGram_155 rfl rfl ?_
                              refine zg_X6_21 hx zw_597 dX6_layGram_156 ?_
                              refine z_iload hx 0 dX6_layGram_159 rfl ?_
                              refine z_iald_n hx (zIA_45 E) (by omega) dX6_layGram_161 ?_
                              refine z_eqi (b := Int32.ofInt (zLn w mm d (cd t) (rd t) t i)) (hQc i (by omega)) ?_
                              refine z_i2l hx dX6_layGram_162 ?_
                              refine z_lload hx 1 dX6_layGram_163 rfl ?_
                              refine z_lmul hx dX6_layGram_165 ?_
                              refine z_ladd hx dX6_layGram_166 ?_
                              refine z_last_n hx (zJA_42 E) (by omega) dX6_layGram_167 ?_
                              refine z_iconst hx (v := nI 0) dX6_layGram_168 (by decide +kernel) ?_
                              refine z_istore hx (lv2 := [(8, .int (nI 0)), (7, .int (nI i)), (5, .long (Int64.ofInt (zLn w mm d (cd t) (rd t) t (zunk w d)))), (4, .int (nI t)), (0, .ref (E.2.2.2 32)), (1, .ref (E.2.2.2 p)), (2, .int (nI s)), (3, .int (zdr d))]) dX6_layGram_169 (by decide) rfl ?_
                              have loop171 : ∀ (fuel171 : Nat) (j : Nat) (V : zM) (_ : j ≤ (zunk w d)) (_ : zfm (fun c => c = 41 ∨ c = 42 ∨ c = 45) (fun k => k = 15 ∨ k = 18) M V) (_ : zGj V (zunk w d) (zGr w mm d cd rd t (zst s)) (zGr w mm d cd rd (t + 1) (zst s)) i (i + 1) j) (_ : ∀ j, j < (zunk w d) → V.1 45 j = Int32.ofInt (zLn w mm d (cd t) (rd t) t j)), (zunk w d) - j < fuel171 → zJ E x 171 [(8, .int (nI j)), (7, .int (nI i)), (5, .long (Int64.ofInt (zLn w mm d (cd t) (rd t) t (zunk w d)))), (4, .int (nI t)), (0, .ref (E.2.2.2 32)), (1, .ref (E.2.2.2 p)), (2, .int (nI s)), (3, .int (zdr d))] [] V := by
                                intro fuel171
                                induction fuel171 with
                                | zero =>
                                  intros; omega
                                | succ fuel171 ih171 =>
                                  intro j V hj2 hVf hVg hVc hfuel171
                                  refine z_iload hx 0 dX6_layGram_171 rfl ?_
                                  refine z_aload_n hx 4 dX6_layGram_173 rfl rfl ?_
                                  refine zg_X6_15 hx zw_591 dX6_layGram_174 ?_
                                  refine z_eqi (b := nI (zunk w d)) hVg.1 ?_
                                  refine z_icmp_ge_n (tgt := 217) hx (by omega) (by omega) dX6_layGram_177 (by decide) (fun h177 => ?_) (fun h177 => ?_)
                                  · skip
                                    refine z_iinc hx (w := nI (i + 1)) (lv2 := [(7, .int (nI (i + 1))), (8, .int (nI j)), (5, .long (Int64.ofInt (zLn w mm d (cd t) (rd t) t (zunk w d)))), (4, .int (nI t)), (0, .ref (E.2.2.2 32)), (1, .ref (E.2.2.2 p)), (2, .int (nI s)), (3, .int (zdr d))]) 1 dX6_layGram_217 rfl (z_inc _) (by decide) rfl ?_
                                    refine z_goto (tgt := 138) hx dX6_layGram_220 (by decide) ?_
                                    exact z_to (ih138 (i + 1) V (by omega) hVf (zGj_n (by omega) hVg) hVc (by omega)) [0, 2, 3, 4, 5, 6, 7] rfl rfl
                                  · skip
                                    refine z_aload_n hx 4 dX6_layGram_180 rfl rfl ?_
                                    refine zg_X6_16 hx zw_592 dX6_layGram_181 ?_
                                    refine z_iconst hx (v := nI 5) dX6_layGram_184 (by decide +kernel) ?_
                                    refine z_iload hx 1 dX6_layGram_185 rfl ?_
                                    refine z_imul_n hx dX6_layGram_187 ?_
                                    refine z_iload hx 0 dX6_layGram_188 rfl ?_
                                    refine z_iadd_n hx dX6_layGram_190 ?_
                                    refine z_dup2_11 hx dX6_layGram_191 rfl rfl ?_
                                    refine z_lald_n hx (zJA_41 E) (by omega) dX6_layGram_192 ?_
                                    refine z_eql (b := Int64.ofInt ((zGr w mm d cd rd t (zst s)) i j)) ((hVg.2.1 i j (by omega) (by omega)).trans (by rw [if_neg (by omega)])) ?_
                                    refine z_aload_n hx 4 dX6_layGram_193 rfl rfl ?_
                                    refine zg_X6_21 hx zw_597 dX6_layGram_194 ?_
                                    refine z_iload hx 1 dX6_layGram_197 rfl ?_
                                    refine z_iald_n hx (zIA_45 E) (by omega) dX6_layGram_199 ?_
                                    refine z_eqi (b := Int32.ofInt (zLn w mm d (cd t) (rd t) t i)) (hVc i (by omega)) ?_
                                    refine z_aload_n hx 4 dX6_layGram_200 rfl rfl ?_
                                    refine zg_X6_21 hx zw_597 dX6_layGram_201 ?_
                                    refine z_iload hx 0 dX6_layGram_204 rfl ?_
                                    refine z_iald_n hx (zIA_45 E) (by omega) dX6_layGram_206 ?_
                                    refine z_eqi (b := Int32.ofInt (zLn w mm d (cd t) (rd t) t j)) (hVc j (by omega)) ?_
                                    refine z_imul hx dX6_layGram_207 ?_
                                    refine z_i2l hx dX6_layGram_208 ?_
                                    refine z_ladd hx dX6_layGram_209 ?_
                                    refine z_last_n hx (zJA_41 E) (by omega) dX6_layGram_210 ?_
                                    refine z_iinc hx (w := nI (j + 1)) (lv2 := [(8, .int (nI (j + 1))), (7, .int (nI i)), (5, .long (Int64.ofInt (zLn w mm d (cd t) (rd t) t (zunk w d)))), (4, .int (nI t)), (0, .ref (E.2.2.2 32)), (1, .ref (E.2.2.2 p)), (2, .int (nI s)), (3, .int (zdr d))]) 0 dX6_layGram_211 rfl (z_inc _) (by decide) rfl ?_
                                    refine z_goto (tgt := 171) hx dX6_layGram_214 (by decide) ?_
                                    exact z_to (ih171 (j + 1) (zputJ V 41 ((5 * i) + j) ((Int64.ofInt ((zGr w mm d cd rd t (zst s)) i j)) + (((Int32.ofInt (zLn w mm d (cd t) (rd t) t i)) * (Int32.ofInt (zLn w mm d (cd t) (rd t) t j))).toInt64))) (by omega) (zfm_tr hVf (zfm_cJ (Or.inl rfl) (by omega))) (zGj_g hu (by omega) hVg (by rw [zlnw2 hVt (by omega) i (by omega) j (by omega), zI64_add, ← zGr_s (S := zst s) hSt])) hVc (by omega)) [0, 1, 2, 3, 4, 5, 6, 7] rfl rfl
                              exact z_to (loop171 _ 0 (zputJ Q 42 i ((Int64.ofInt ((zGr w mm d cd rd t (zst s)) i (zunk w d))) + (((Int32.ofInt (zLn w mm d (cd t) (rd t) t i)).toInt64) * (Int64.ofInt (zLn w mm d (cd t) (rd t) t (zunk w d)))))) (Nat.zero_le _) (zfm_tr hQf (zfm_cJ (Or.inr (Or.inl rfl)) (by omega))) (zGj_r hQg (by rw [zlnw hVt (by omega) i (by omega), zI64_mul, zI64_add, ← zGr_s (S := zst s) hSt])) hQc (Nat.lt_succ_self _)) [0, 1, 2, 3, 4, 5, 6, 7] rfl rfl
                        exact z_to (loop138 _ 0 (zputJ M98 32 18 ((M98.2 32 18) + ((Int64.ofInt (zLn w mm d (cd t) (rd t) t (zunk w d))) * (Int64.ofInt (zLn w mm d (cd t) (rd t) t (zunk w d)))))) (Nat.zero_le _) (zfm_tr hTf (zfm_tr (zfm_of (zfr_w q98.2 (fun c z => Or.inr (Or.inr z))) (by omega)) (zfm_fJ (Or.inr rfl)))) (zGj_0 (zGt_fr hTg (zfm_of (ks := fun _ => False) q98.2 (by omega)) (by omega) (by omega) (fun z => z) (fun z => z)) (by rw [(q98.2 32 (by omega)).2, hTg.2.2.2, zI64_mul, zI64_add, ← zGr_s (S := zst s) hSt])) q98.1 (Nat.lt_succ_self _)) [0, 1, 2, 3, 4, 5, 6] rfl rfl
                      · skip
                        show zJ E x 90 _ [.int (nI 0)] _
                        refine z_if_eq_n (tgt := 223) hx (by decide) dX6_layGram_90 (by decide) (fun _ => ?_) (fun h => absurd h (by decide))
                        refine z_iinc hx (w := nI (t + 1)) (lv2 := [(4, .int (nI (t + 1))), (0, .ref (E.2.2.2 32)), (1, .ref (E.2.2.2 p)), (2, .int (nI s)), (3, .int (zdr d))]) 0 dX6_layGram_223 rfl (z_inc _) (by decide) rfl ?_
                        refine z_goto (tgt := 76) hx dX6_layGram_226 (by decide) ?_
                        exact z_to (ih76 (t + 1) T (by omega) hTf (by rw [zGr_n (S := zst s) (decide_eq_false q87)]; exact hTg) (by omega)) [0, 1, 2, 3, 4] rfl rfl
                exact z_to (loop76 _ 0 K (by omega) hKf ⟨hKu, fun a b ha hb => hK0 _ (by omega), fun a ha => hK1 a (by omega), hKq⟩ (Nat.lt_succ_self _)) [0, 1, 2, 3, 4] rfl rfl
              · skip
                refine z_aload_n hx 1 dX6_layGram_59 rfl rfl ?_
                refine zg_X6_17 hx zw_593 dX6_layGram_60 ?_
                refine z_iload hx 0 dX6_layGram_63 rfl ?_
                refine z_lconst hx (v := 0) dX6_layGram_65 rfl ?_
                refine z_last_n hx (zJA_42 E) (by omega) dX6_layGram_66 ?_
                refine z_iinc hx (w := nI (i + 1)) (lv2 := [(4, .int (nI (i + 1))), (0, .ref (E.2.2.2 32)), (1, .ref (E.2.2.2 p)), (2, .int (nI s)), (3, .int (zdr d))]) 0 dX6_layGram_67 rfl (z_inc _) (by decide) rfl ?_
                refine z_goto (tgt := 53) hx dX6_layGram_70 (by decide) ?_
                exact z_to (ih53 (i + 1) (zputJ K 42 i 0) (by omega) (zfm_tr hKf (zfm_cJ (Or.inr (Or.inl rfl)) (by omega))) hKu (zskJ (by omega) hKq) (fun j hj => zskJ (by omega) (hK0 j hj)) (fun j hj => by
                    rw [zg_putJ]
                    by_cases e : j = i
                    · rw [if_pos ⟨rfl, e⟩]; decide +kernel
                    · rw [if_neg (fun z => e z.2)]
                      exact hK1 j (by omega)) (by omega)) [0, 1, 2, 3, 4] rfl rfl
          exact z_to (loop53 _ 0 N (by omega) hNf hNu hNq (fun j hj => hN0 j (by omega)) (fun j hj => by omega) (Nat.lt_succ_self _)) [0, 1, 2, 3, 4] rfl rfl
        · skip
          refine z_aload_n hx 1 dX6_layGram_36 rfl rfl ?_
          refine zg_X6_16 hx zw_592 dX6_layGram_37 ?_
          refine z_iload hx 0 dX6_layGram_40 rfl ?_
          refine z_lconst hx (v := 0) dX6_layGram_42 rfl ?_
          refine z_last_n hx (zJA_41 E) (by omega) dX6_layGram_43 ?_
          refine z_iinc hx (w := nI (k + 1)) (lv2 := [(4, .int (nI (k + 1))), (0, .ref (E.2.2.2 32)), (1, .ref (E.2.2.2 p)), (2, .int (nI s)), (3, .int (zdr d))]) 0 dX6_layGram_44 rfl (z_inc _) (by decide) rfl ?_
          refine z_goto (tgt := 29) hx dX6_layGram_47 (by decide) ?_
          exact z_to (ih29 (k + 1) (zputJ N 41 k 0) (by omega) (zfm_tr hNf (zfm_cJ (Or.inl rfl) (by omega))) hNu (zskJ (by omega) hNq) (fun j hj => by
              rw [zg_putJ]
              by_cases e : j = k
              · rw [if_pos ⟨rfl, e⟩]; decide +kernel
              · rw [if_neg (fun z => e z.2)]
                exact hN0 j (by omega)) (by omega)) [0, 1, 2, 3, 4] rfl rfl
    exact z_to (loop29 _ 0 (zputJ (zputI M 32 15 (nI w)) 32 18 0) (by omega) (zfm_tr (zfm_fI (Or.inl rfl)) (zfm_fJ (Or.inr rfl))) (zskJI (by rw [hdt]; exact zhtI)) (zhtJ.trans (by decide +kernel)) (fun j hj => by omega) (Nat.lt_succ_self _)) [0, 1, 2, 3, 4] rfl rfl
  · skip
    have hdt : zunk w d = w + 1 := by rw [h2]; rfl
    refine z_aload_n hx 0 dX6_layGram_5 rfl rfl ?_
    refine zg_X6_4 hx zw_580 dX6_layGram_6 ?_
    refine z_eqi (b := nI w) hW ?_
    refine z_iconst hx (v := nI 1) dX6_layGram_9 (by decide +kernel) ?_
    refine z_iadd_n hx dX6_layGram_10 ?_
    refine z_goto (tgt := 18) hx dX6_layGram_11 (by decide) ?_
    refine zp_X6_15 hx zw_591 dX6_layGram_18 ?_
    refine z_aload_n hx 0 dX6_layGram_21 rfl rfl ?_
    refine z_lconst hx (v := 0) dX6_layGram_22 rfl ?_
    refine zp_X6_18 hx zw_594 dX6_layGram_23 ?_
    refine z_iconst hx (v := nI 0) dX6_layGram_26 (by decide +kernel) ?_
    refine z_istore hx (lv2 := [(4, .int (nI 0)), (0, .ref (E.2.2.2 32)), (1, .ref (E.2.2.2 p)), (2, .int (nI s)), (3, .int (zdr d))]) dX6_layGram_27 (by decide) rfl ?_
    have loop29 : ∀ (fuel29 : Nat) (k : Nat) (N : zM) (_ : k ≤ 25) (_ : zfm (fun c => c = 41 ∨ c = 42 ∨ c = 45) (fun k => k = 15 ∨ k = 18) M N) (_ : N.1 32 15 = nI (zunk w d)) (_ : N.2 32 18 = Int64.ofInt 0) (_ : ∀ j, j < k → N.2 41 j = Int64.ofInt 0), 25 - k < fuel29 → zJ E x 29 [(4, .int (nI k)), (0, .ref (E.2.2.2 32)), (1, .ref (E.2.2.2 p)), (2, .int (nI s)), (3, .int (zdr d))] [] N := by
      intro fuel29
      induction fuel29 with
      | zero =>
        intros; omega
      | succ fuel29 ih29 =>
        intro k N hk hNf hNu hNq hN0 hfuel29
        refine z_iload hx 0 dX6_layGram_29 rfl ?_
        refine z_bipush hx (v := nI 25) dX6_layGram_31 (by decide +kernel) ?_
        refine z_icmp_ge_n (tgt := 50) hx (by omega) (by omega) dX6_layGram_33 (by decide) (fun h33 => ?_) (fun h33 => ?_)
        · skip
          refine z_iconst hx (v := nI 0) dX6_layGram_50 (by decide +kernel) ?_
          refine z_istore hx (lv2 := [(4, .int (nI 0)), (0, .ref (E.2.2.2 32)), (1, .ref (E.2.2.2 p)), (2, .int (nI s)), (3, .int (zdr d))]) dX6_layGram_51 (by decide) rfl ?_
          have loop53 : ∀ (fuel53 : Nat) (i : Nat) (K : zM) (_ : i ≤ 5) (_ : zfm (fun c => c = 41 ∨ c = 42 ∨ c = 45) (fun k => k = 15 ∨ k = 18) M K) (_ : K.1 32 15 = nI (zunk w d)) (_ : K.2 32 18 = Int64.ofInt 0) (_ : ∀ j, j < 25 → K.2 41 j = Int64.ofInt 0) (_ : ∀ j, j < i → K.2 42 j = Int64.ofInt 0), 5 - i < fuel53 → zJ E x 53 [(4, .int (nI i)), (0, .ref (E.2.2.2 32)), (1, .ref (E.2.2.2 p)), (2, .int (nI s)), (3, .int (zdr d))] [] K := by
            intro fuel53
            induction fuel53 with
            | zero =>
              intros; omega
            | succ fuel53 ih53 =>
              intro i K hi hKf hKu hKq hK0 hK1 hfuel53
              refine z_iload hx 0 dX6_layGram_53 rfl ?_
              refine z_iconst hx (v := nI 5) dX6_layGram_55 (by decide +kernel) ?_
              refine z_icmp_ge_n (tgt := 73) hx (by omega) (by omega) dX6_layGram_56 (by decide) (fun h56 => ?_) (fun h56 => ?_)
              · skip
                refine z_iconst hx (v := nI 0) dX6_layGram_73 (by decide +kernel) ?_
                refine z_istore hx (lv2 := [(4, .int (nI 0)), (0, .ref (E.2.2.2 32)), (1, .ref (E.2.2.2 p)), (2, .int (nI s)), (3, .int (zdr d))]) dX6_layGram_74 (by decide) rfl ?_
                have loop76 : ∀ (fuel76 : Nat) (t : Nat) (T : zM) (_ : t ≤ n) (_ : zfm (fun c => c = 41 ∨ c = 42 ∨ c = 45) (fun k => k = 15 ∨ k = 18) M T) (_ : zGt T (zunk w d) (zGr w mm d cd rd t (zst s))), n - t < fuel76 → zJ E x 76 [(4, .int (nI t)), (0, .ref (E.2.2.2 32)), (1, .ref (E.2.2.2 p)), (2, .int (nI s)), (3, .int (zdr d))] [] T := by
                  intro fuel76
                  induction fuel76 with
                  | zero =>
                    intros; omega
                  | succ fuel76 ih76 =>
                    intro t T htn hTf hTg hfuel76
                    refine z_iload hx 0 dX6_layGram_76 rfl ?_
                    refine z_aload_n hx 2 dX6_layGram_78 rfl rfl ?_
                    refine z_iconst hx (v := nI 1) dX6_layGram_79 (by decide +kernel) ?_
                    refine z_iald_n hx (zIA_p hp E) (by omega) dX6_layGram_80 ?_
                    refine z_eqi (b := nI n) (by rw [(zfm_c hTf (c := p) (by omega) (by omega)).1]; exact hP1) ?_
                    refine z_icmp_ge_n (tgt := 229) hx (by omega) (by omega) dX6_layGram_81 (by decide) (fun h81 => ?_) (fun h81 => ?_)
                    · skip
                      exact rv _ _ _ rfl ⟨rfl, ⟨by rw [show t = n by omega] at hTg; exact hTg, hTf⟩⟩ dX6_layGram_229
                    · skip
                      refine z_iload_n hx 3 dX6_layGram_84 rfl rfl ?_
                      refine z_iload hx 0 dX6_layGram_85 rfl ?_
                      refine z_callS hx (As := [.int (nI s), .int (nI t)]) (st := []) (k_X6_has hI T s t (by omega) (by omega)) zw_763 zy_X6_has ⟨rfl, rfl⟩ (by decide) rfl rfl (Nat.le_of_ble_eq_true rfl) dX6_layGram_87 ?_
                      rintro _ M87 ⟨v87, rfl, q87⟩
                      obtain ⟨q87, hmm⟩ := q87
                      rw [hmm]
                      rcases q87 with ⟨q87, rfl⟩ | ⟨q87, rfl⟩
                      · skip
                        show zJ E x 90 _ [.int (nI 1)] _
                        refine z_if_eq_n (tgt := 223) hx (by decide) dX6_layGram_90 (by decide) (fun h => absurd h (by decide)) (fun _ => ?_)
                        refine z_aload_n hx 1 dX6_layGram_93 rfl rfl ?_
                        refine z_aload_n hx 2 dX6_layGram_94 rfl rfl ?_
                        refine z_iload hx 0 dX6_layGram_95 rfl ?_
                        refine z_iload_n hx 4 dX6_layGram_97 rfl rfl ?_
                        refine z_callV hx (As := [.ref (E.2.2.2 p), .int (nI t), .int (zdr d)]) (st := []) (k_X6_layColumns hI T hp (zPr_fr hR hTf hp (by omega) (by omega)) (t := t) (by omega) d) zw_766 zy_X6_layColumns ⟨rfl, rfl⟩ (by decide) (zOB_X6 E) rfl rfl rfl rfl (Nat.le_of_ble_eq_true rfl) dX6_layGram_98 ?_
                        rintro _ M98 ⟨rfl, q98⟩
                        show zJ E x 101 _ [] _
                        refine z_aload_n hx 2 dX6_layGram_101 rfl rfl ?_
                        refine z_iload hx 0 dX6_layGram_102 rfl ?_
                        refine z_aload_n hx 1 dX6_layGram_104 rfl rfl ?_
                        refine z_aload_n hx 2 dX6_layGram_105 rfl rfl ?_
                        refine z_iconst hx (v := nI 2) dX6_layGram_106 (by decide +kernel) ?_
                        refine z_iload hx 0 dX6_layGram_107 rfl ?_
                        refine z_iadd_n hx dX6_layGram_109 ?_
                        refine z_iald_n hx (zIA_p hp E) (by omega) dX6_layGram_110 ?_
                        refine z_eqi (b := nI (cd t)) (by rw [(q98.2 p (by omega)).1, (zfm_c hTf (c := p) (by omega) (by omega)).1]; exact (hPt t (by omega)).1) ?_
                        refine z_iconst hx (v := nI 0) dX6_layGram_111 (by decide +kernel) ?_
                        refine z_callV hx (As := [.int (nI (cd t)), .int (nI 0)]) (st := [.int (nI t), .ref (E.2.2.2 p)]) (k_X6_panOf hI M98 (w := w) (by rw [(q98.2 32 (by omega)).1]; exact (hTf.2 4 (by omega)).1.trans hW) (by omega) (c := cd t) (k := 0) (hV t (by omega)).1 (by omega)) zw_770 zy_X6_panOf ⟨rfl, rfl⟩ (by decide) (zOB_X6 E) rfl rfl rfl rfl (Nat.le_of_ble_eq_true rfl) dX6_layGram_112 ?_
                        rintro _ M112 ⟨v112, rfl, q112⟩
                        obtain ⟨rfl, q112⟩ := q112
                        rw [q112]
                        have hpz : cd t / 10 ^ (w - 0) % 10 = cd t / 10 ^ w := zcode_top (hV t (by omega)).1
                        rw [hpz]
                        show zJ E x 115 _ [.int (Int32.ofInt (zsgd (cd t / 10 ^ w))), .int (nI t), .ref (E.2.2.2 p)] _
                        refine z_callS hx (As := [.ref (E.2.2.2 p), .int (nI t), .int (Int32.ofInt (zsgd (cd t / 10 ^ w)))]) (st := []) (k_X6_pureOf hI M98 hp (zPr_fr (zPr_fr hR hTf hp (by omega) (by omega)) (zfm_of (ks := fun _ => False) q98.2 (by omega)) hp (by omega) (fun z => z)) (t := t) (by omega) (zsgd (cd t / 10 ^ w))) zw_774 zy_X6_pureOf ⟨rfl, rfl⟩ (by decide) rfl rfl (Nat.le_of_ble_eq_true rfl) dX6_layGram_115 ?_
                        rintro _ M115 ⟨v115, rfl, q115⟩
                        obtain ⟨rfl, q115⟩ := q115
                        rw [q115]
                        show zJ E x 118 _ [.int (Int32.ofInt (rd t - zsgd (cd t / 10 ^ w) * mm))] _
                        refine z_i2l hx dX6_layGram_118 ?_
                        have hSt : zst s t = true := decide_eq_true q87
                        have hVt := (hV t (by omega)).1
                        have hyb := zLn_y (d := d) (t := t) hVt (hV t (by omega)).2.1 (hV t (by omega)).2.2 hmm9
                        refine z_eql (b := Int64.ofInt (zLn w mm d (cd t) (rd t) t (zunk w d))) (by rw [← zLn_u w mm d (cd t) (rd t) t]; unfold zab at hyb; exact zi32 (by omega) (by omega)) ?_
                        refine z_lstore hx (lv2 := [(5, .long (Int64.ofInt (zLn w mm d (cd t) (rd t) t (zunk w d)))), (4, .int (nI t)), (0, .ref (E.2.2.2 32)), (1, .ref (E.2.2.2 p)), (2, .int (nI s)), (3, .int (zdr d))]) dX6_layGram_119 (by decide) rfl ?_
                        refine z_aload_n hx 2 dX6_layGram_121 rfl rfl ?_
                        refine z_dup hx dX6_layGram_122 rfl ?_
                        refine zg_X6_18 hx zw_594 dX6_layGram_123 ?_
                        refine z_lload hx 0 dX6_layGram_126 rfl ?_
                        refine z_lload hx 0 dX6_layGram_128 rfl ?_
                        refine z_lmul hx dX6_layGram_130 ?_
                        refine z_ladd hx dX6_layGram_131 ?_
                        refine zp_X6_18 hx zw_594 dX6_layGram_132 ?_
                        refine z_iconst hx (v := nI 0) dX6_layGram_135 (by decide +kernel) ?_
                        refine z_istore hx (lv2 := [(7, .int (nI 0)), (5, .long (Int64.ofInt (zLn w mm d (cd t) (rd t) t (zunk w d)))), (4, .int (nI t)), (0, .ref (E.2.2.2 32)), (1, .ref (E.2.2.2 p)), (2, .int (nI s)), (3, .int (zdr d))]) dX6_layGram_136 (by decide) rfl ?_
                        have loop138 : ∀ (fuel138 : Nat) (i : Nat) (Q : zM) (_ : i ≤ (zunk w d)) (_ : zfm (fun c => c = 41 ∨ c = 42 ∨ c = 45) (fun k => k = 15 ∨ k = 18) M Q) (_ : zGj Q (zunk w d) (zGr w mm d cd rd t (zst s)) (zGr w mm d cd rd (t + 1) (zst s)) i i 0) (_ : ∀ j, j < (zunk w d) → Q.1 45 j = Int32.ofInt (zLn w mm d (cd t) (rd t) t j)), (zunk w d) - i < fuel138 → zJ E x 138 [(7, .int (nI i)), (5, .long (Int64.ofInt (zLn w mm d (cd t) (rd t) t (zunk w d)))), (4, .int (nI t)), (0, .ref (E.2.2.2 32)), (1, .ref (E.2.2.2 p)), (2, .int (nI s)), (3, .int (zdr d))] [] Q := by
                          intro fuel138
                          induction fuel138 with
                          | zero =>
                            intros; omega
                          | succ fuel138 ih138 =>
                            intro i Q hi2 hQf hQg hQc hfuel138
                            refine z_iload hx 0 dX6_layGram_138 rfl ?_
                            refine z_aload_n hx 3 dX6_layGram_140 rfl rfl ?_
                            refine zg_X6_15 hx zw_591 dX6_layGram_141 ?_
                            refine z_eqi (b := nI (zunk w d)) hQg.1 ?_
                            refine z_icmp_ge_n (tgt := 223) hx (by omega) (by omega) dX6_layGram_144 (by decide) (fun h144 => ?_) (fun h144 => ?_)
                            · skip
                              refine z_iinc hx (w := nI (t + 1)) (lv2 := [(4, .int (nI (t + 1))), (7, .int (nI i)), (5, .long (Int64.ofInt (zLn w mm d (cd t) (rd t) t (zunk w d)))), (0, .ref (E.2.2.2 32)), (1, .ref (E.2.2.2 p)), (2, .int (nI s)), (3, .int (zdr d))]) 2 dX6_layGram_223 rfl (z_inc _) (by decide) rfl ?_
                              refine z_goto (tgt := 76) hx dX6_layGram_226 (by decide) ?_
                              exact z_to (ih76 (t + 1) Q (by omega) hQf (zGj_e (by omega) hQg) (by omega)) [0, 3, 4, 5, 6] rfl rfl
                            · skip
                              refine z_aload_n hx 3 dX6_layGram_147 rfl rfl ?_
                              refine zg_X6_17 hx zw_593 dX6_layGram_148 ?_
                              refine z_iload hx 0 dX6_layGram_151 rfl ?_
                              refine z_dup2_11 hx dX6_layGram_153 rfl rfl ?_
                              refine z_lald_n hx (zJA_42 E) (by omega) dX6_layGram_154 ?_
                              refine z_eql (b := Int64.ofInt ((zGr w mm d cd rd t (zst s)) i (zunk w d))) ((hQg.2.2.1 i (by omega)).trans (by rw [if_neg (by omega)])) ?_
                              refine z_aload_n hx 3 dX6_layGram_155 rfl rfl ?_
                              refine zg_X6_21 hx zw_597 dX6_layGram_156 ?_
                              refine z_iload hx 0 dX6_layGram_159 rfl ?_
                              refine z_iald_n hx (zIA_45 E) (by omega) dX6_layGram_161 ?_
                              refine z_eqi (b := Int32.ofInt (zLn w mm d (cd t) (rd t) t i)) (hQc i (by omega)) ?_
                              refine z_i2l hx dX6_layGram_162 ?_
                              refine z_lload hx 1 dX6_layGram_163 rfl ?_
                              refine z_lmul hx dX6_layGram_165 ?_
                              refine z_ladd hx dX6_layGram_166 ?_
                              refine z_last_n hx (zJA_42 E) (by omega) dX6_layGram_167 ?_
                              refine z_iconst hx (v := nI 0) dX6_layGram_168 (by decide +kernel) ?_
                              refine z_istore hx (lv2 := [(8, .int (nI 0)), (7, .int (nI i)), (5, .long (Int64.ofInt (zLn w mm d (cd t) (rd t) t (zunk w d)))), (4, .int (nI t)), (0, .ref (E.2.2.2 32)), (1, .ref (E.2.2.2 p)), (2, .int (nI s)), (3, .int (zdr d))]) dX6_layGram_169 (by decide) rfl ?_
                              have loop171 : ∀ (fuel171 : Nat) (j : Nat) (V : zM) (_ : j ≤ (zunk w d)) (_ : zfm (fun c => c = 41 ∨ c = 42 ∨ c = 45) (fun k => k = 15 ∨ k = 18) M V) (_ : zGj V (zunk w d) (zGr w mm d cd rd t (zst s)) (zGr w mm d cd rd (t + 1) (zst s)) i (i + 1) j) (_ : ∀ j, j < (zunk w d) → V.1 45 j = Int32.ofInt (zLn w mm d (cd t) (rd t) t j)), (zunk w d) - j < fuel171 → zJ E x 171 [(8, .int (nI j)), (7, .int (nI i)), (5, .long (Int64.ofInt (zLn w mm d (cd t) (rd t) t (zunk w d)))), (4, .int (nI t)), (0, .ref (E.2.2.2 32)), (1, .ref (E.2.2.2 p)), (2, .int (nI s)), (3, .int (zdr d))] [] V := by
                                intro fuel171
                                induction fuel171 with
                                | zero =>
                                  intros; omega
                                | succ fuel171 ih171 =>
                                  intro j V hj2 hVf hVg hVc hfuel171
                                  refine z_iload hx 0 dX6_layGram_171 rfl ?_
                                  refine z_aload_n hx 4 dX6_layGram_173 rfl rfl ?_
                                  refine zg_X6_15 hx zw_591 dX6_layGram_174 ?_
                                  refine z_eqi (b := nI (zunk w d)) hVg.1 ?_
                                  refine z_icmp_ge_n (tgt := 217) hx (by omega) (by omega) dX6_layGram_177 (by decide) (fun h177 => ?_) (fun h177 => ?_)
                                  · skip
                                    refine z_iinc hx (w := nI (i + 1)) (lv2 := [(7, .int (nI (i + 1))), (8, .int (nI j)), (5, .long (Int64.ofInt (zLn w mm d (cd t) (rd t) t (zunk w d)))), (4, .int (nI t)), (0, .ref (E.2.2.2 32)), (1, .ref (E.2.2.2 p)), (2, .int (nI s)), (3, .int (zdr d))]) 1 dX6_layGram_217 rfl (z_inc _) (by decide) rfl ?_
                                    refine z_goto (tgt := 138) hx dX6_layGram_220 (by decide) ?_
                                    exact z_to (ih138 (i + 1) V (by omega) hVf (zGj_n (by omega) hVg) hVc (by omega)) [0, 2, 3, 4, 5, 6, 7] rfl rfl
                                  · skip
                                    refine z_aload_n hx 4 dX6_layGram_180 rfl rfl ?_
                                    refine zg_X6_16 hx zw_592 dX6_layGram_181 ?_
                                    refine z_iconst hx (v := nI 5) dX6_layGram_184 (by decide +kernel) ?_
                                    refine z_iload hx 1 dX6_layGram_185 rfl ?_
                                    refine z_imul_n hx dX6_layGram_187 ?_
                                    refine z_iload hx 0 dX6_layGram_188 rfl ?_
                                    refine z_iadd_n hx dX6_layGram_190 ?_
                                    refine z_dup2_11 hx dX6_layGram_191 rfl rfl ?_
                                    refine z_lald_n hx (zJA_41 E) (by omega) dX6_layGram_192 ?_
                                    refine z_eql (b := Int64.ofInt ((zGr w mm d cd rd t (zst s)) i j)) ((hVg.2.1 i j (by omega) (by omega)).trans (by rw [if_neg (by omega)])) ?_
                                    refine z_aload_n hx 4 dX6_layGram_193 rfl rfl ?_
                                    refine zg_X6_21 hx zw_597 dX6_layGram_194 ?_
                                    refine z_iload hx 1 dX6_layGram_197 rfl ?_
                                    refine z_iald_n hx (zIA_45 E) (by omega) dX6_layGram_199 ?_
                                    refine z_eqi (b := Int32.ofInt (zLn w mm d (cd t) (rd t) t i)) (hVc i (by omega)) ?_
                                    refine z_aload_n hx 4 dX6_layGram_200 rfl rfl ?_
                                    refine zg_X6_21 hx zw_597 dX6_layGram_201 ?_
                                    refine z_iload hx 0 dX6_layGram_204 rfl ?_
                                    refine z_iald_n hx (zIA_45 E) (by omega) dX6_layGram_206 ?_
                                    refine z_eqi (b := Int32.ofInt (zLn w mm d (cd t) (rd t) t j)) (hVc j (by omega)) ?_
                                    refine z_imul hx dX6_layGram_207 ?_
                                    refine z_i2l hx dX6_layGram_208 ?_
                                    refine z_ladd hx dX6_layGram_209 ?_
                                    refine z_last_n hx (zJA_41 E) (by omega) dX6_layGram_210 ?_
                                    refine z_iinc hx (w := nI (j + 1)) (lv2 := [(8, .int (nI (j + 1))), (7, .int (nI i)), (5, .long (Int64.ofInt (zLn w mm d (cd t) (rd t) t (zunk w d)))), (4, .int (nI t)), (0, .ref (E.2.2.2 32)), (1, .ref (E.2.2.2 p)), (2, .int (nI s)), (3, .int (zdr d))]) 0 dX6_layGram_211 rfl (z_inc _) (by decide) rfl ?_
                                    refine z_goto (tgt := 171) hx dX6_layGram_214 (by decide) ?_
                                    exact z_to (ih171 (j + 1) (zputJ V 41 ((5 * i) + j) ((Int64.ofInt ((zGr w mm d cd rd t (zst s)) i j)) + (((Int32.ofInt (zLn w mm d (cd t) (rd t) t i)) * (Int32.ofInt (zLn w mm d (cd t) (rd t) t j))).toInt64))) (by omega) (zfm_tr hVf (zfm_cJ (Or.inl rfl) (by omega))) (zGj_g hu (by omega) hVg (by rw [zlnw2 hVt (by omega) i (by omega) j (by omega), zI64_add, ← zGr_s (S := zst s) hSt])) hVc (by omega)) [0, 1, 2, 3, 4, 5, 6, 7] rfl rfl
                              exact z_to (loop171 _ 0 (zputJ Q 42 i ((Int64.ofInt ((zGr w mm d cd rd t (zst s)) i (zunk w d))) + (((Int32.ofInt (zLn w mm d (cd t) (rd t) t i)).toInt64) * (Int64.ofInt (zLn w mm d (cd t) (rd t) t (zunk w d)))))) (Nat.zero_le _) (zfm_tr hQf (zfm_cJ (Or.inr (Or.inl rfl)) (by omega))) (zGj_r hQg (by rw [zlnw hVt (by omega) i (by omega), zI64_mul, zI64_add, ← zGr_s (S := zst s) hSt])) hQc (Nat.lt_succ_self _)) [0, 1, 2, 3, 4, 5, 6, 7] rfl rfl
                        exact z_to (loop138 _ 0 (zputJ M98 32 18 ((M98.2 32 18) + ((Int64.ofInt (zLn w mm d (cd t) (rd t) t (zunk w d))) * (Int64.ofInt (zLn w mm d (cd t) (rd t) t (zunk w d)))))) (Nat.zero_le _) (zfm_tr hTf (zfm_tr (zfm_of (zfr_w q98.2 (fun c z => Or.inr (Or.inr z))) (by omega)) (zfm_fJ (Or.inr rfl)))) (zGj_0 (zGt_fr hTg (zfm_of (ks := fun _ => False) q98.2 (by omega)) (by omega) (by omega) (fun z => z) (fun z => z)) (by rw [(q98.2 32 (by omega)).2, hTg.2.2.2, zI64_mul, zI64_add, ← zGr_s (S := zst s) hSt])) q98.1 (Nat.lt_succ_self _)) [0, 1, 2, 3, 4, 5, 6] rfl rfl
                      · skip
                        show zJ E x 90 _ [.int (nI 0)] _
                        refine z_if_eq_n (tgt := 223) hx (by decide) dX6_layGram_90 (by decide) (fun _ => ?_) (fun h => absurd h (by decide))
                        refine z_iinc hx (w := nI (t + 1)) (lv2 := [(4, .int (nI (t + 1))), (0, .ref (E.2.2.2 32)), (1, .ref (E.2.2.2 p)), (2, .int (nI s)), (3, .int (zdr d))]) 0 dX6_layGram_223 rfl (z_inc _) (by decide) rfl ?_
                        refine z_goto (tgt := 76) hx dX6_layGram_226 (by decide) ?_
                        exact z_to (ih76 (t + 1) T (by omega) hTf (by rw [zGr_n (S := zst s) (decide_eq_false q87)]; exact hTg) (by omega)) [0, 1, 2, 3, 4] rfl rfl
                exact z_to (loop76 _ 0 K (by omega) hKf ⟨hKu, fun a b ha hb => hK0 _ (by omega), fun a ha => hK1 a (by omega), hKq⟩ (Nat.lt_succ_self _)) [0, 1, 2, 3, 4] rfl rfl
              · skip
                refine z_aload_n hx 1 dX6_layGram_59 rfl rfl ?_
                refine zg_X6_17 hx zw_593 dX6_layGram_60 ?_
                refine z_iload hx 0 dX6_layGram_63 rfl ?_
                refine z_lconst hx (v := 0) dX6_layGram_65 rfl ?_
                refine z_last_n hx (zJA_42 E) (by omega) dX6_layGram_66 ?_
                refine z_iinc hx (w := nI (i + 1)) (lv2 := [(4, .int (nI (i + 1))), (0, .ref (E.2.2.2 32)), (1, .ref (E.2.2.2 p)), (2, .int (nI s)), (3, .int (zdr d))]) 0 dX6_layGram_67 rfl (z_inc _) (by decide) rfl ?_
                refine z_goto (tgt := 53) hx dX6_layGram_70 (by decide) ?_
                exact z_to (ih53 (i + 1) (zputJ K 42 i 0) (by omega) (zfm_tr hKf (zfm_cJ (Or.inr (Or.inl rfl)) (by omega))) hKu (zskJ (by omega) hKq) (fun j hj => zskJ (by omega) (hK0 j hj)) (fun j hj => by
                    rw [zg_putJ]
                    by_cases e : j = i
                    · rw [if_pos ⟨rfl, e⟩]; decide +kernel
                    · rw [if_neg (fun z => e z.2)]
                      exact hK1 j (by omega)) (by omega)) [0, 1, 2, 3, 4] rfl rfl
          exact z_to (loop53 _ 0 N (by omega) hNf hNu hNq (fun j hj => hN0 j (by omega)) (fun j hj => by omega) (Nat.lt_succ_self _)) [0, 1, 2, 3, 4] rfl rfl
        · skip
          refine z_aload_n hx 1 dX6_layGram_36 rfl rfl ?_
          refine zg_X6_16 hx zw_592 dX6_layGram_37 ?_
          refine z_iload hx 0 dX6_layGram_40 rfl ?_
          refine z_lconst hx (v := 0) dX6_layGram_42 rfl ?_
          refine z_last_n hx (zJA_41 E) (by omega) dX6_layGram_43 ?_
          refine z_iinc hx (w := nI (k + 1)) (lv2 := [(4, .int (nI (k + 1))), (0, .ref (E.2.2.2 32)), (1, .ref (E.2.2.2 p)), (2, .int (nI s)), (3, .int (zdr d))]) 0 dX6_layGram_44 rfl (z_inc _) (by decide) rfl ?_
          refine z_goto (tgt := 29) hx dX6_layGram_47 (by decide) ?_
          exact z_to (ih29 (k + 1) (zputJ N 41 k 0) (by omega) (zfm_tr hNf (zfm_cJ (Or.inl rfl) (by omega))) hNu (zskJ (by omega) hNq) (fun j hj => by
              rw [zg_putJ]
              by_cases e : j = k
              · rw [if_pos ⟨rfl, e⟩]; decide +kernel
              · rw [if_neg (fun z => e z.2)]
                exact hN0 j (by omega)) (by omega)) [0, 1, 2, 3, 4] rfl rfl
    exact z_to (loop29 _ 0 (zputJ (zputI M 32 15 (nI (w + 1))) 32 18 0) (by omega) (zfm_tr (zfm_fI (Or.inl rfl)) (zfm_fJ (Or.inr rfl))) (zskJI (by rw [hdt]; exact zhtI)) (zhtJ.trans (by decide +kernel)) (fun j hj => by omega) (Nat.lt_succ_self _)) [0, 1, 2, 3, 4] rfl rfl
