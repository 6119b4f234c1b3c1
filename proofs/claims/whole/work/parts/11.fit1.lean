theorem zI64_add (a b : Int) : Int64.ofInt a + Int64.ofInt b = Int64.ofInt (a + b) := (Int64.ofInt_add a b).symm
theorem zI64_mul (a b : Int) : Int64.ofInt a * Int64.ofInt b = Int64.ofInt (a * b) := (Int64.ofInt_mul a b).symm
theorem zI64_sub (a b : Int) : Int64.ofInt a - Int64.ofInt b = Int64.ofInt (a - b) := (Int64.ofInt_sub a b).symm
theorem zI64_neg (a : Int) : -Int64.ofInt a = Int64.ofInt (-a) := (Int64.ofInt_neg a).symm
theorem zcmp0 {x : Int64} (h : lg_cmp x 0 = 0) : x = 0 := (lg_cmp_eq x 0).mp h
theorem zcmpn0 {x : Int64} (h : ¬ lg_cmp x 0 = 0) : ¬ x = 0 := fun e => h ((lg_cmp_eq x 0).mpr e)
theorem zif_cong {α : Type} {p q : Prop} [Decidable p] [Decidable q] (h : p ↔ q) {a b : α} : (if p then a else b) = if q then a else b := by
  by_cases hp : p
  · rw [if_pos hp, if_pos (h.mp hp)]
  · rw [if_neg hp, if_neg (fun z => hp (h.mpr z))]
theorem zput_next {i c2 u p q : Nat} {f : Nat → Int64} {tm B0 : Int64} (h1 : p ≤ q) (h2 : q ≤ u) (hcc : tm * f i = 0 ∨ u < c2) : (if p < i ∨ p = i ∧ q < c2 then B0 + tm * f p * f q else B0) = if p < i + 1 then B0 + tm * f p * f q else B0 := by
  by_cases e : p = i
  · subst e
    rw [if_pos (Nat.lt_succ_self _)]
    rcases hcc with h | h
    · rw [h, Int64.zero_mul, Int64.add_zero, ite_self]
    · rw [if_pos (by omega)]
  · exact zif_cong (by omega)
theorem zput_one {i c2 p q : Nat} {M : zM} {f : Nat → Int64} {tm : Int64} : (if 15 + 1 * p = 15 + 1 * i ∧ q = c2 then M.2 (15 + 1 * i) c2 + tm * f i * f c2 else if p < i ∨ p = i ∧ q < c2 then M.2 (15 + 1 * p) q + tm * f p * f q else M.2 (15 + 1 * p) q) = if p < i ∨ p = i ∧ q < c2 + 1 then M.2 (15 + 1 * p) q + tm * f p * f q else M.2 (15 + 1 * p) q := by
  by_cases e : 15 + 1 * p = 15 + 1 * i ∧ q = c2
  · obtain ⟨e1, rfl⟩ := e
    obtain rfl : p = i := by omega
    rw [if_pos ⟨rfl, rfl⟩, if_pos (by omega)]
  · rw [if_neg e]
    exact zif_cong (by omega)
set_option maxHeartbeats 4000000 in
set_option maxRecDepth 100000 in
theorem k_X1_put {E : zE} (hI : zI E) (M : zM) {a w mm c t : Nat} {r : Int} (ha : zRoom a) (hw : M.1 a 0 = nI w) (h1 : 1 ≤ w) (h4 : w ≤ 4) (hm : M.1 a 1 = nI mm) (hmm : mm ≤ 99) (ht : t < 8) (hc : M.1 (a + 1) t = nI c) (hc5 : c < 100000) (hr : M.1 (a + 2) t = Int32.ofInt r) (hr1 : -1000 ≤ r) (hr2 : r ≤ 1000) (hcw : zcode w c) (d : Bool) (h73 : M.1 7 3 = zdr d) (h75 : M.1 7 5 = nI (zunk w d)) (tm : Int32) : zK E yX1_put (.code yX1_put cX1_put 8 none) (zrm 2 46) [.ref (E.2.2.2 7), .ref (E.2.2.2 a), .int (nI t), .int tm] M (zpv (fun M2 => (∀ p q, p ≤ q → q ≤ zunk w d → M2.2 (15 + 1 * p) q = M.2 (15 + 1 * p) q + tm.toInt64 * Int64.ofInt (zLn w mm d c r t p) * Int64.ofInt (zLn w mm d c r t q)) ∧ zfr (fun c => c = 10 ∨ 15 ≤ c ∧ c ≤ 20) M M2)) := by
  refine zK_of hI (by decide) (Nat.le_of_ble_eq_true rfl) (fun x hx ri rz rl rv => ?_)
  show zJ E x 0 [(0, .ref (E.2.2.2 7)), (1, .ref (E.2.2.2 a)), (2, .int (nI t)), (3, .int tm)] [] M
  have hu := zunk_le h4 d
  have hge := zRoom_ge ha
  refine z_aload_n hx 1 dX1_put_0 rfl rfl ?_
  refine z_iload_n hx 2 dX1_put_1 rfl rfl ?_
  refine z_aload_n hx 0 dX1_put_2 rfl rfl ?_
  refine zg_X1_3 hx zw_134 dX1_put_3 ?_
  refine z_eqi h73 ?_
  refine z_aload_n hx 0 dX1_put_6 rfl rfl ?_
  refine zg_X1_2 hx zw_133 dX1_put_7 ?_
  refine z_callV hx (As := [.int (nI t), .int (zdr d), .ref (E.2.2.2 10)]) (st := []) (k_X3_layOut hI M ha (zJA_10 E) (by decide) hw h1 h4 hm ht hc hc5 hr hr1 hr2 hmm hcw d) zw_394 zy_X3_layOut ⟨rfl, rfl⟩ (by decide) (zOB_room ha E) rfl rfl rfl rfl (Nat.le_of_ble_eq_true rfl) dX1_put_10 ?_
  rintro _ M10 ⟨rfl, q10⟩
  subst q10
  show zJ E x 13 _ [] _
  refine z_iconst hx (v := nI 0) dX1_put_13 (by decide +kernel) ?_
  refine z_istore hx (lv2 := [(4, .int (nI 0)), (0, .ref (E.2.2.2 7)), (1, .ref (E.2.2.2 a)), (2, .int (nI t)), (3, .int tm)]) dX1_put_14 (by decide) rfl ?_
  have loop16 : ∀ (fuel16 : Nat) (i : Nat) (N : zM) (_ : i ≤ zunk w d + 1) (_ : N.1 7 5 = nI (zunk w d)) (_ : ∀ k, k ≤ zunk w d → N.2 10 k = Int64.ofInt (zLn w mm d c r t k)) (_ : zfr (fun c => c = 10 ∨ 15 ≤ c ∧ c ≤ 20) M N) (_ : ∀ p q, p ≤ q → q ≤ zunk w d → N.2 (15 + 1 * p) q = (if p < i then M.2 (15 + 1 * p) q + tm.toInt64 * Int64.ofInt (zLn w mm d c r t p) * Int64.ofInt (zLn w mm d c r t q) else M.2 (15 + 1 * p) q)), zunk w d + 1 - i < fuel16 → zJ E x 16 [(4, .int (nI i)), (0, .ref (E.2.2.2 7)), (1, .ref (E.2.2.2 a)), (2, .int (nI t)), (3, .int tm)] [] N := by
    intro fuel16
    induction fuel16 with
    | zero =>
      intros; omega
    | succ fuel16 ih16 =>
      intro i N hi hN5 hNl hNf hNs hfuel16
      refine z_iload hx 0 dX1_put_16 rfl ?_
      refine z_aload_n hx 1 dX1_put_18 rfl rfl ?_
      refine zg_X1_5 hx zw_136 dX1_put_19 ?_
      refine z_eqi hN5 ?_
      refine z_icmp_gt_n (tgt := 92) hx (by omega) (by omega) dX1_put_22 (by decide) (fun h22 => ?_) (fun h22 => ?_)
      · skip
        exact rv _ _ _ rfl ⟨rfl, ⟨fun p q h1 h2 => by rw [hNs p q h1 h2, if_pos (by omega)], hNf⟩⟩ dX1_put_92
      · skip
        refine z_iload_n hx 4 dX1_put_25 rfl rfl ?_
        refine z_i2l hx dX1_put_26 ?_
        refine z_aload_n hx 1 dX1_put_27 rfl rfl ?_
        refine zg_X1_2 hx zw_133 dX1_put_28 ?_
        refine z_iload hx 0 dX1_put_31 rfl ?_
        refine z_lald_n hx (zJA_10 E) (by omega) dX1_put_33 ?_
        refine z_eql (hNl i (by omega)) ?_
        refine z_lmul hx dX1_put_34 ?_
        refine z_lstore hx (lv2 := [(5, .long (tm.toInt64 * (Int64.ofInt (zLn w mm d c r t i)))), (4, .int (nI i)), (0, .ref (E.2.2.2 7)), (1, .ref (E.2.2.2 a)), (2, .int (nI t)), (3, .int tm)]) dX1_put_35 (by decide) rfl ?_
        refine z_iload hx 1 dX1_put_37 rfl ?_
        refine z_istore hx (lv2 := [(7, .int (nI i)), (5, .long (tm.toInt64 * (Int64.ofInt (zLn w mm d c r t i)))), (4, .int (nI i)), (0, .ref (E.2.2.2 7)), (1, .ref (E.2.2.2 a)), (2, .int (nI t)), (3, .int tm)]) dX1_put_39 (by decide) rfl ?_
        have loop41 : ∀ (fuel41 : Nat) (c2 : Nat) (N2 : zM) (_ : i ≤ c2) (_ : c2 ≤ zunk w d + 1) (_ : N2.1 7 5 = nI (zunk w d)) (_ : ∀ k, k ≤ zunk w d → N2.2 10 k = Int64.ofInt (zLn w mm d c r t k)) (_ : zfr (fun c => c = 10 ∨ 15 ≤ c ∧ c ≤ 20) M N2) (_ : ∀ p q, p ≤ q → q ≤ zunk w d → N2.2 (15 + 1 * p) q = (if p < i ∨ p = i ∧ q < c2 then M.2 (15 + 1 * p) q + tm.toInt64 * Int64.ofInt (zLn w mm d c r t p) * Int64.ofInt (zLn w mm d c r t q) else M.2 (15 + 1 * p) q)), zunk w d + 1 - c2 < fuel41 → zJ E x 41 [(7, .int (nI c2)), (5, .long (tm.toInt64 * Int64.ofInt (zLn w mm d c r t i))), (4, .int (nI i)), (0, .ref (E.2.2.2 7)), (1, .ref (E.2.2.2 a)), (2, .int (nI t)), (3, .int tm)] [] N2 := by
          intro fuel41
          induction fuel41 with
          | zero =>
            intros; omega
          | succ fuel41 ih41 =>
            intro c2 N2 hic hcu hK5 hKl hKf hKs hfuel41
            refine z_lload hx 1 dX1_put_41 rfl ?_
            refine z_lconst hx (v := 0) dX1_put_43 rfl ?_
            refine z_lcmp hx dX1_put_44 ?_
            refine z_if_eq (tgt := 86) hx dX1_put_45 (by decide) (fun h45 => ?_) (fun h45 => ?_)
            · skip
              have hcc : tm.toInt64 * Int64.ofInt (zLn w mm d c r t i) = 0 ∨ zunk w d < c2 := Or.inl (zcmp0 h45)
              refine z_iinc hx (w := nI (i + 1)) (lv2 := [(4, .int (nI (i + 1))), (7, .int (nI c2)), (5, .long (tm.toInt64 * Int64.ofInt (zLn w mm d c r t i))), (0, .ref (E.2.2.2 7)), (1, .ref (E.2.2.2 a)), (2, .int (nI t)), (3, .int tm)]) 2 dX1_put_86 rfl (z_inc _) (by decide) rfl ?_
              refine z_goto (tgt := 16) hx dX1_put_89 (by decide) ?_
              exact z_to (ih16 (i + 1) N2 (by omega) hK5 hKl hKf (fun p q h1 h2 => by rw [hKs p q h1 h2]; exact zput_next (f := fun k => Int64.ofInt (zLn w mm d c r t k)) h1 h2 hcc) (by omega)) [0, 3, 4, 5, 6] rfl rfl
            · skip
              refine z_iload hx 0 dX1_put_48 rfl ?_
              refine z_aload_n hx 3 dX1_put_50 rfl rfl ?_
              refine zg_X1_5 hx zw_136 dX1_put_51 ?_
              refine z_eqi hK5 ?_
              refine z_icmp_gt_n (tgt := 86) hx (by omega) (by omega) dX1_put_54 (by decide) (fun h54 => ?_) (fun h54 => ?_)
              · skip
                have hcc : tm.toInt64 * Int64.ofInt (zLn w mm d c r t i) = 0 ∨ zunk w d < c2 := Or.inr h54
                refine z_iinc hx (w := nI (i + 1)) (lv2 := [(4, .int (nI (i + 1))), (7, .int (nI c2)), (5, .long (tm.toInt64 * Int64.ofInt (zLn w mm d c r t i))), (0, .ref (E.2.2.2 7)), (1, .ref (E.2.2.2 a)), (2, .int (nI t)), (3, .int tm)]) 2 dX1_put_86 rfl (z_inc _) (by decide) rfl ?_
                refine z_goto (tgt := 16) hx dX1_put_89 (by decide) ?_
                exact z_to (ih16 (i + 1) N2 (by omega) hK5 hKl hKf (fun p q h1 h2 => by rw [hKs p q h1 h2]; exact zput_next (f := fun k => Int64.ofInt (zLn w mm d c r t k)) h1 h2 hcc) (by omega)) [0, 3, 4, 5, 6] rfl rfl
              · skip
                refine z_aload_n hx 3 dX1_put_57 rfl rfl ?_
                refine zg_X1_0 hx zw_131 dX1_put_58 ?_
                refine z_iload hx 2 dX1_put_61 rfl ?_
                refine z_aald_n hx (zRA_8 E) (by omega) dX1_put_63 ?_
                refine z_iload hx 0 dX1_put_64 rfl ?_
                refine z_dup2_11 hx dX1_put_66 rfl rfl ?_
                refine z_lald_n hx (zJA_row (by omega) (by omega) E) (by omega) dX1_put_67 ?_
                refine z_eql (by rw [hKs i c2 hic (by omega), if_neg (by omega)]) ?_
                refine z_lload hx 1 dX1_put_68 rfl ?_
                refine z_aload_n hx 3 dX1_put_70 rfl rfl ?_
                refine zg_X1_2 hx zw_133 dX1_put_71 ?_
                refine z_iload hx 0 dX1_put_74 rfl ?_
                refine z_lald_n hx (zJA_10 E) (by omega) dX1_put_76 ?_
                refine z_eql (hKl c2 (by omega)) ?_
                refine z_lmul hx dX1_put_77 ?_
                refine z_ladd hx dX1_put_78 ?_
                refine z_last_n hx (zJA_row (by omega) (by omega) E) (by omega) dX1_put_79 ?_
                refine z_iinc hx (w := nI (c2 + 1)) (lv2 := [(7, .int (nI (c2 + 1))), (5, .long (tm.toInt64 * Int64.ofInt (zLn w mm d c r t i))), (4, .int (nI i)), (0, .ref (E.2.2.2 7)), (1, .ref (E.2.2.2 a)), (2, .int (nI t)), (3, .int tm)]) 0 dX1_put_80 rfl (z_inc _) (by decide) rfl ?_
                refine z_goto (tgt := 41) hx dX1_put_83 (by decide) ?_
                exact z_to (ih41 (c2 + 1) (zputJ N2 (15 + 1 * i) c2 ((M.2 (15 + 1 * i) c2) + ((tm.toInt64 * Int64.ofInt (zLn w mm d c r t i)) * (Int64.ofInt (zLn w mm d c r t c2))))) (by omega) (by omega) (zskJI hK5) (fun k hk => zskJ (by omega) (hKl k hk)) (zfr_tr hKf (zfr_putJ (Or.inr (by omega)))) (fun p q h1 h2 => by rw [zg_putJ, hKs p q h1 h2]; exact zput_one (f := fun k => Int64.ofInt (zLn w mm d c r t k))) (by omega)) [0, 1, 2, 3, 4, 5, 6] rfl rfl
        exact z_to (loop41 _ i N (Nat.le_refl _) (by omega) hN5 hNl hNf (fun p q h1 h2 => by rw [hNs p q h1 h2]; exact zif_cong (by omega)) (Nat.lt_succ_self _)) [0, 1, 2, 3, 4, 5, 6] rfl rfl
  exact z_to (loop16 _ 0 (zsetJ M 10 (fun i => if i ≤ zunk w d then Int64.ofInt (zLn w mm d c r t i) else M.2 10 i)) (by omega) (zskSJI h75) (fun k hk => by rw [zg_setJ, if_pos rfl, if_pos hk]) (zfr_setJ (Or.inl rfl)) (fun p q h1 h2 => by rw [if_neg (by omega), zg_setJ, if_neg (by omega)]) (Nat.lt_succ_self _)) [0, 1, 2, 3, 4] rfl rfl
theorem k_X1_putR {E : zE} (hI : zI E) (M : zM) {a w n mm t : Nat} {cd : Nat → Nat} {rd : Nat → Int} (ha : zRoom a) (hR : zRm M a w n mm cd rd) (ht : t < n) (d : Bool) (h73 : M.1 7 3 = zdr d) (h75 : M.1 7 5 = nI (zunk w d)) (tm : Int32) : zK E yX1_put (.code yX1_put cX1_put 8 none) (zrm 2 46) [.ref (E.2.2.2 7), .ref (E.2.2.2 a), .int (nI t), .int tm] M (zpv (fun M2 => (∀ p q, p ≤ q → q ≤ zunk w d → M2.2 (15 + 1 * p) q = M.2 (15 + 1 * p) q + tm.toInt64 * Int64.ofInt (zLn w mm d (cd t) (rd t) t p) * Int64.ofInt (zLn w mm d (cd t) (rd t) t q)) ∧ zfr (fun c => c = 10 ∨ 15 ≤ c ∧ c ≤ 20) M M2)) := by
  obtain ⟨q1, q2, q3, q4, q5, q6, q7⟩ := hR
  obtain ⟨r1, r2, r3, r4, r5, r6⟩ := q7 t ht
  exact k_X1_put hI M ha q1 q2.1 q2.2 q3 q4 (by omega) r1 r2 r4 r5 r6 r3 d h73 h75 tm
theorem zgat_fr {a : Nat} (ha : zRoom a) : ¬ (fun c => c = 7 ∨ c = 10 ∨ 15 ≤ c ∧ c ≤ 20) a ∧ ¬ (fun c => c = 7 ∨ c = 10 ∨ 15 ≤ c ∧ c ≤ 20) (a + 1) ∧ ¬ (fun c => c = 7 ∨ c = 10 ∨ 15 ≤ c ∧ c ≤ 20) (a + 2) := by
  have := zRoom_ge ha
  refine ⟨?_, ?_, ?_⟩ <;> (intro h; omega)
theorem zsum_step {w mm : Nat} {d : Bool} {cd : Nat → Nat} {rd : Nat → Int} {t p q : Nat} : Int64.ofInt (zS t (fun t => zLn w mm d (cd t) (rd t) t p * zLn w mm d (cd t) (rd t) t q)) + (nI 1).toInt64 * Int64.ofInt (zLn w mm d (cd t) (rd t) t p) * Int64.ofInt (zLn w mm d (cd t) (rd t) t q) = Int64.ofInt (zS (t + 1) (fun t => zLn w mm d (cd t) (rd t) t p * zLn w mm d (cd t) (rd t) t q)) := by
  rw [show (nI 1).toInt64 = 1 by decide +kernel, Int64.one_mul, zI64_mul, zI64_add]
  rfl
set_option maxHeartbeats 4000000 in
set_option maxRecDepth 100000 in
theorem k_X1_gather {E : zE} (hI : zI E) (M : zM) {a w n mm : Nat} {cd : Nat → Nat} {rd : Nat → Int} (ha : zRoom a) (hR : zRm M a w n mm cd rd) (d : Bool) : zK E yX1_gather (.code yX1_gather cX1_gather 5 none) (zrm 3 73) [.ref (E.2.2.2 7), .ref (E.2.2.2 a), .int (zdr d)] M (zpv (fun M2 => M2.1 7 3 = zdr d ∧ M2.1 7 4 = nI w ∧ M2.1 7 5 = nI (zunk w d) ∧ zfr (fun c => c = 7 ∨ c = 10 ∨ 15 ≤ c ∧ c ≤ 20) M M2 ∧ ∀ p q, p ≤ q → q ≤ zunk w d → M2.2 (15 + 1 * p) q = Int64.ofInt (zS n (fun t => zLn w mm d (cd t) (rd t) t p * zLn w mm d (cd t) (rd t) t q)))) := by
  refine zK_of hI (by decide) (Nat.le_of_ble_eq_true rfl) (fun x hx ri rz rl rv => ?_)
  show zJ E x 0 [(0, .ref (E.2.2.2 7)), (1, .ref (E.2.2.2 a)), (2, .int (zdr d))] [] M
  have hw := hR.1
  have hw4 := hR.2.1
  have hu := zunk_le hw4.2 d
  have hge := zRoom_ge ha
  have hn8 := hR.2.2.2.2.2.1
  refine z_aload_n hx 0 dX1_gather_0 rfl rfl ?_
  refine z_iload_n hx 2 dX1_gather_1 rfl rfl ?_
  refine zp_X1_3 hx (zdr_01 d) zw_134 dX1_gather_2 ?_
  refine z_aload_n hx 0 dX1_gather_5 rfl rfl ?_
  refine z_aload_n hx 1 dX1_gather_6 rfl rfl ?_
  refine zg_X3_0 hx ha zw_80 dX1_gather_7 ?_
  refine z_eqi (zskI (by omega) hw) ?_
  refine zp_X1_4 hx zw_135 dX1_gather_10 ?_
  refine z_aload_n hx 0 dX1_gather_13 rfl rfl ?_
  refine z_aload_n hx 1 dX1_gather_14 rfl rfl ?_
  refine z_iload_n hx 2 dX1_gather_15 rfl rfl ?_
  refine z_callV hx (As := [.int (zdr d)]) (st := [.ref (E.2.2.2 7)]) (k_X3_unknowns hI (zputI (zputI M 7 3 (zdr d)) 7 4 (nI w)) ha (zskI (by omega) (zskI (by omega) hw)) d) zw_389 zy_X3_unknowns ⟨rfl, rfl⟩ (by decide) (zOB_room ha E) rfl rfl rfl rfl (Nat.le_of_ble_eq_true rfl) dX1_gather_16 ?_
  rintro _ M16 ⟨v16, rfl, q16⟩
  obtain ⟨rfl, rfl⟩ := q16
  show zJ E x 19 _ [.int (nI (zunk w d)), .ref (E.2.2.2 7)] _
  refine zp_X1_5 hx zw_136 dX1_gather_19 ?_
  refine z_iconst hx (v := nI 0) dX1_gather_22 (by decide +kernel) ?_
  refine z_istore_n hx (lv2 := [(3, .int (nI 0)), (0, .ref (E.2.2.2 7)), (1, .ref (E.2.2.2 a)), (2, .int (zdr d))]) dX1_gather_23 rfl (by decide) rfl ?_
  have loop24 : ∀ (fuel24 : Nat) (i : Nat) (N : zM) (_ : i ≤ zunk w d + 1) (_ : N.1 7 3 = zdr d) (_ : N.1 7 4 = nI w) (_ : N.1 7 5 = nI (zunk w d)) (_ : zfr (fun c => c = 7 ∨ c = 10 ∨ 15 ≤ c ∧ c ≤ 20) M N) (_ : ∀ p q, p < i → q ≤ zunk w d → N.2 (15 + 1 * p) q = 0), zunk w d + 1 - i < fuel24 → zJ E x 24 [(3, .int (nI i)), (0, .ref (E.2.2.2 7)), (1, .ref (E.2.2.2 a)), (2, .int (zdr d))] [] N := by
    intro fuel24
    induction fuel24 with
    | zero =>
      intros; omega
    | succ fuel24 ih24 =>
      intro i N hi hN3 hN4 hN5 hNf hNz hfuel24
      refine z_iload_n hx 0 dX1_gather_24 rfl rfl ?_
      refine z_aload_n hx 1 dX1_gather_25 rfl rfl ?_
      refine zg_X1_5 hx zw_136 dX1_gather_26 ?_
      refine z_eqi hN5 ?_
      refine z_icmp_gt_n (tgt := 66) hx (by omega) (by omega) dX1_gather_29 (by decide) (fun h29 => ?_) (fun h29 => ?_)
      · skip
        refine z_iconst hx (v := nI 0) dX1_gather_66 (by decide +kernel) ?_
        refine z_istore_n hx (lv2 := [(3, .int (nI 0)), (0, .ref (E.2.2.2 7)), (1, .ref (E.2.2.2 a)), (2, .int (zdr d))]) dX1_gather_67 rfl (by decide) rfl ?_
        have loop68 : ∀ (fuel68 : Nat) (t : Nat) (N3 : zM) (_ : t ≤ n) (_ : N3.1 7 3 = zdr d) (_ : N3.1 7 4 = nI w) (_ : N3.1 7 5 = nI (zunk w d)) (_ : zfr (fun c => c = 7 ∨ c = 10 ∨ 15 ≤ c ∧ c ≤ 20) M N3) (_ : ∀ p q, p ≤ q → q ≤ zunk w d → N3.2 (15 + 1 * p) q = Int64.ofInt (zS t (fun t => zLn w mm d (cd t) (rd t) t p * zLn w mm d (cd t) (rd t) t q))), n - t < fuel68 → zJ E x 68 [(3, .int (nI t)), (0, .ref (E.2.2.2 7)), (1, .ref (E.2.2.2 a)), (2, .int (zdr d))] [] N3 := by
          intro fuel68
          induction fuel68 with
          | zero =>
            intros; omega
          | succ fuel68 ih68 =>
            intro t N3 ht hT3 hT4 hT5 hTf hTs hfuel68
            refine z_iload_n hx 0 dX1_gather_68 rfl rfl ?_
            refine z_aload_n hx 2 dX1_gather_69 rfl rfl ?_
            refine zg_X3_2 hx ha zw_87 dX1_gather_70 ?_
            refine z_eqi (zRm_fr hR hTf (zgat_fr ha).1 (zgat_fr ha).2.1 (zgat_fr ha).2.2).2.2.2.2.1 ?_
            refine z_icmp_ge_n (tgt := 89) hx (by omega) (by omega) dX1_gather_73 (by decide) (fun h73 => ?_) (fun h73 => ?_)
            · skip
              exact rv _ _ _ rfl ⟨rfl, ⟨hT3, hT4, hT5, hTf, fun p q h1 h2 => by rw [hTs p q h1 h2, show t = n by omega]⟩⟩ dX1_gather_89
            · skip
              refine z_aload_n hx 1 dX1_gather_76 rfl rfl ?_
              refine z_aload_n hx 2 dX1_gather_77 rfl rfl ?_
              refine z_iload_n hx 0 dX1_gather_78 rfl rfl ?_
              refine z_iconst hx (v := nI 1) dX1_gather_79 (by decide +kernel) ?_
              refine z_callV hx (As := [.ref (E.2.2.2 a), .int (nI t), .int (nI 1)]) (st := []) (k_X1_putR hI N3 ha (zRm_fr hR hTf (zgat_fr ha).1 (zgat_fr ha).2.1 (zgat_fr ha).2.2) (by omega) d hT3 hT5 (nI 1)) zw_390 zy_X1_put ⟨rfl, rfl⟩ (by decide) (zOB_X1 E) rfl rfl rfl rfl (Nat.le_of_ble_eq_true rfl) dX1_gather_80 ?_
              rintro _ M80 ⟨rfl, q80⟩
              show zJ E x 83 _ [] _
              refine z_iinc hx (w := nI (t + 1)) (lv2 := [(3, .int (nI (t + 1))), (0, .ref (E.2.2.2 7)), (1, .ref (E.2.2.2 a)), (2, .int (zdr d))]) 0 dX1_gather_83 rfl (z_inc _) (by decide) rfl ?_
              refine z_goto (tgt := 68) hx dX1_gather_86 (by decide) ?_
              exact z_to (ih68 (t + 1) M80 (by omega) (by rw [(q80.2 7 (by omega)).1]; exact hT3) (by rw [(q80.2 7 (by omega)).1]; exact hT4) (by rw [(q80.2 7 (by omega)).1]; exact hT5) (zfr_tr hTf (zfr_w q80.2 (fun c h => Or.inr h))) (fun p q h1 h2 => by rw [q80.1 p q h1 h2, hTs p q h1 h2]; exact zsum_step) (by omega)) [0, 1, 2, 3] rfl rfl
        exact z_to (loop68 _ 0 N (by omega) hN3 hN4 hN5 hNf (fun p q h1 h2 => hNz p q (by omega) h2) (Nat.lt_succ_self _)) [0, 1, 2, 3] rfl rfl
      · skip
        refine z_iconst hx (v := nI 0) dX1_gather_32 (by decide +kernel) ?_
        refine z_istore hx (lv2 := [(4, .int (nI 0)), (3, .int (nI i)), (0, .ref (E.2.2.2 7)), (1, .ref (E.2.2.2 a)), (2, .int (zdr d))]) dX1_gather_33 (by decide) rfl ?_
        have loop35 : ∀ (fuel35 : Nat) (c2 : Nat) (N2 : zM) (_ : c2 ≤ zunk w d + 1) (_ : N2.1 7 3 = zdr d) (_ : N2.1 7 4 = nI w) (_ : N2.1 7 5 = nI (zunk w d)) (_ : zfr (fun c => c = 7 ∨ c = 10 ∨ 15 ≤ c ∧ c ≤ 20) M N2) (_ : ∀ p q, p < i ∨ p = i ∧ q < c2 → q ≤ zunk w d → N2.2 (15 + 1 * p) q = 0), zunk w d + 1 - c2 < fuel35 → zJ E x 35 [(4, .int (nI c2)), (3, .int (nI i)), (0, .ref (E.2.2.2 7)), (1, .ref (E.2.2.2 a)), (2, .int (zdr d))] [] N2 := by
          intro fuel35
          induction fuel35 with
          | zero =>
            intros; omega
          | succ fuel35 ih35 =>
            intro c2 N2 hc hK3 hK4 hK5 hKf hKz hfuel35
            refine z_iload hx 0 dX1_gather_35 rfl ?_
            refine z_aload_n hx 2 dX1_gather_37 rfl rfl ?_
            refine zg_X1_5 hx zw_136 dX1_gather_38 ?_
            refine z_eqi hK5 ?_
            refine z_icmp_gt_n (tgt := 60) hx (by omega) (by omega) dX1_gather_41 (by decide) (fun h41 => ?_) (fun h41 => ?_)
            · skip
              refine z_iinc hx (w := nI (i + 1)) (lv2 := [(3, .int (nI (i + 1))), (4, .int (nI c2)), (0, .ref (E.2.2.2 7)), (1, .ref (E.2.2.2 a)), (2, .int (zdr d))]) 1 dX1_gather_60 rfl (z_inc _) (by decide) rfl ?_
              refine z_goto (tgt := 24) hx dX1_gather_63 (by decide) ?_
              exact z_to (ih24 (i + 1) N2 (by omega) hK3 hK4 hK5 hKf (fun p q h1 h2 => hKz p q (by omega) h2) (by omega)) [0, 2, 3, 4] rfl rfl
            · skip
              refine z_aload_n hx 2 dX1_gather_44 rfl rfl ?_
              refine zg_X1_0 hx zw_131 dX1_gather_45 ?_
              refine z_iload_n hx 1 dX1_gather_48 rfl rfl ?_
              refine z_aald_n hx (zRA_8 E) (by omega) dX1_gather_49 ?_
              refine z_iload hx 0 dX1_gather_50 rfl ?_
              refine z_lconst hx (v := 0) dX1_gather_52 rfl ?_
              refine z_last_n hx (zJA_row (by omega) (by omega) E) (by omega) dX1_gather_53 ?_
              refine z_iinc hx (w := nI (c2 + 1)) (lv2 := [(4, .int (nI (c2 + 1))), (3, .int (nI i)), (0, .ref (E.2.2.2 7)), (1, .ref (E.2.2.2 a)), (2, .int (zdr d))]) 0 dX1_gather_54 rfl (z_inc _) (by decide) rfl ?_
              refine z_goto (tgt := 35) hx dX1_gather_57 (by decide) ?_
              exact z_to (ih35 (c2 + 1) (zputJ N2 (15 + 1 * i) c2 0) (by omega) (zskJI hK3) (zskJI hK4) (zskJI hK5) (zfr_tr hKf (zfr_putJ (Or.inr (Or.inr (by omega))))) (fun p q h1 h2 => by rw [zg_putJ]; by_cases e : 15 + 1 * p = 15 + 1 * i ∧ q = c2; (rw [if_pos e]); (rw [if_neg e]; exact hKz p q (by omega) h2)) (by omega)) [0, 1, 2, 3, 4] rfl rfl
        exact z_to (loop35 _ 0 N (by omega) hN3 hN4 hN5 hNf (fun p q h1 h2 => hNz p q (by omega) h2) (Nat.lt_succ_self _)) [0, 1, 2, 3, 4] rfl rfl
  exact z_to (loop24 _ 0 (zputI (zputI (zputI M 7 3 (zdr d)) 7 4 (nI w)) 7 5 (nI (zunk w d))) (by omega) (zskK (by omega) (zskK (by omega) zhtI)) (zskK (by omega) zhtI) zhtI (zfr_tr (zfr_tr (zfr_putI (Or.inl rfl)) (zfr_putI (Or.inl rfl))) (zfr_putI (Or.inl rfl))) (fun p q h1 => by omega) (Nat.lt_succ_self _)) [0, 1, 2, 3] rfl rfl
