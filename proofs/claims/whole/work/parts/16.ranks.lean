/-- a line less a multiple of another, so that it is 0 at ld -/
def zred (v b : Nat → Int) (ld : Nat) : Nat → Int := if v ld = 0 then v else fun i => v i * b ld - b i * v ld
def zrall (bs : Nat → Nat → Int) (ld : Nat → Nat) : Nat → (Nat → Int) → Nat → Int
  | 0, v => v
  | k + 1, v => zred (zrall bs ld k v) (bs k) (ld k)
set_option maxHeartbeats 4000000 in
set_option maxRecDepth 100000 in
theorem k_X2_reduce {E : zE} (hI : zI E) (M : zM) {c1 c2 ld cols : Nat} {v b : Nat → Int} (hc1 : zJA E c1 6) (hc2 : zJA E c2 6) (hcc : ¬ c1 = c2) (h5 : cols ≤ 5) (hld : ld < cols) (hv : ∀ i, i < cols → M.2 c1 i = Int64.ofInt (v i)) (hb : ∀ i, i < cols → M.2 c2 i = Int64.ofInt (b i)) (hrg : zrg (v ld)) : zK E yX2_reduce (.code yX2_reduce cX2_reduce 9 none) (zrm 0 0) [.ref (E.2.2.2 c1), .ref (E.2.2.2 c2), .int (nI ld), .int (nI cols)] M (zpv (fun M2 => (∀ i, i < cols → M2.2 c1 i = Int64.ofInt (zred v b ld i)) ∧ zfr (fun c => c = c1) M M2)) := by
  refine zK_of hI (by decide) (Nat.le_of_ble_eq_true rfl) (fun x hx ri rz rl rv => ?_)
  show zJ E x 0 [(0, .ref (E.2.2.2 c1)), (1, .ref (E.2.2.2 c2)), (2, .int (nI ld)), (3, .int (nI cols))] [] M
  refine z_aload_n hx 0 dX2_reduce_0 rfl rfl ?_
  refine z_iload_n hx 2 dX2_reduce_1 rfl rfl ?_
  refine z_lald_n hx hc1 (by omega) dX2_reduce_2 ?_
  refine z_eql (b := Int64.ofInt (v ld)) (hv ld hld) ?_
  refine z_lstore hx (lv2 := [(4, .long (Int64.ofInt (v ld))), (0, .ref (E.2.2.2 c1)), (1, .ref (E.2.2.2 c2)), (2, .int (nI ld)), (3, .int (nI cols))]) dX2_reduce_3 (by decide) rfl ?_
  refine z_lload hx 0 dX2_reduce_5 rfl ?_
  refine z_lconst hx (v := 0) dX2_reduce_7 rfl ?_
  refine z_lcmp hx dX2_reduce_8 ?_
  refine z_if_ne (tgt := 13) hx dX2_reduce_9 (by decide) (fun h9 => ?_) (fun h9 => ?_)
  · skip
    have hz : ¬ v ld = 0 := fun z => h9 (by rw [z]; decide +kernel)
    refine z_aload_n hx 2 dX2_reduce_13 rfl rfl ?_
    refine z_iload_n hx 3 dX2_reduce_14 rfl rfl ?_
    refine z_lald_n hx hc2 (by omega) dX2_reduce_15 ?_
    refine z_eql (b := Int64.ofInt (b ld)) (hb ld hld) ?_
    refine z_lstore hx (lv2 := [(6, .long (Int64.ofInt (b ld))), (4, .long (Int64.ofInt (v ld))), (0, .ref (E.2.2.2 c1)), (1, .ref (E.2.2.2 c2)), (2, .int (nI ld)), (3, .int (nI cols))]) dX2_reduce_16 (by decide) rfl ?_
    refine z_iconst hx (v := nI 0) dX2_reduce_18 (by decide +kernel) ?_
    refine z_istore hx (lv2 := [(8, .int (nI 0)), (6, .long (Int64.ofInt (b ld))), (4, .long (Int64.ofInt (v ld))), (0, .ref (E.2.2.2 c1)), (1, .ref (E.2.2.2 c2)), (2, .int (nI ld)), (3, .int (nI cols))]) dX2_reduce_19 (by decide) rfl ?_
    have loop21 : ∀ (fuel21 : Nat) (k : Nat) (N : zM) (_ : k ≤ cols) (_ : zfr (fun c => c = c1) M N) (_ : ∀ i, i < cols → N.2 c1 i = if i < k then Int64.ofInt (v i * b ld - b i * v ld) else Int64.ofInt (v i)), cols - k < fuel21 → zJ E x 21 [(8, .int (nI k)), (6, .long (Int64.ofInt (b ld))), (4, .long (Int64.ofInt (v ld))), (0, .ref (E.2.2.2 c1)), (1, .ref (E.2.2.2 c2)), (2, .int (nI ld)), (3, .int (nI cols))] [] N := by
      intro fuel21
      induction fuel21 with
      | zero =>
        intros; omega
      | succ fuel21 ih21 =>
        intro k N hk hNf hNs hfuel21
        refine z_iload hx 0 dX2_reduce_21 rfl ?_
        refine z_iload_n hx 6 dX2_reduce_23 rfl rfl ?_
        refine z_icmp_ge_n (tgt := 52) hx (by omega) (by omega) dX2_reduce_24 (by decide) (fun h24 => ?_) (fun h24 => ?_)
        · skip
          exact rv _ _ _ rfl ⟨rfl, ⟨fun i hi => by rw [zred, if_neg hz, hNs i hi, if_pos (by omega)], hNf⟩⟩ dX2_reduce_52
        · skip
          refine z_aload_n hx 3 dX2_reduce_27 rfl rfl ?_
          refine z_iload hx 0 dX2_reduce_28 rfl ?_
          refine z_aload_n hx 3 dX2_reduce_30 rfl rfl ?_
          refine z_iload hx 0 dX2_reduce_31 rfl ?_
          refine z_lald_n hx hc1 (by omega) dX2_reduce_33 ?_
          refine z_eql (b := Int64.ofInt (v k)) (by rw [hNs k h24, if_neg (by omega)]) ?_
          refine z_lload hx 1 dX2_reduce_34 rfl ?_
          refine z_lmul hx dX2_reduce_36 ?_
          refine z_aload_n hx 4 dX2_reduce_37 rfl rfl ?_
          refine z_iload hx 0 dX2_reduce_38 rfl ?_
          refine z_lald_n hx hc2 (by omega) dX2_reduce_40 ?_
          refine z_eql (b := Int64.ofInt (b k)) (by rw [(hNf c2 (fun z => hcc (Eq.symm z))).2]; exact hb k h24) ?_
          refine z_lload hx 2 dX2_reduce_41 rfl ?_
          refine z_lmul hx dX2_reduce_43 ?_
          refine z_lsub hx dX2_reduce_44 ?_
          refine z_last_n hx hc1 (by omega) dX2_reduce_45 ?_
          refine z_iinc hx (w := nI (k + 1)) (lv2 := [(8, .int (nI (k + 1))), (6, .long (Int64.ofInt (b ld))), (4, .long (Int64.ofInt (v ld))), (0, .ref (E.2.2.2 c1)), (1, .ref (E.2.2.2 c2)), (2, .int (nI ld)), (3, .int (nI cols))]) 0 dX2_reduce_46 rfl (z_inc _) (by decide) rfl ?_
          refine z_goto (tgt := 21) hx dX2_reduce_49 (by decide) ?_
          exact z_to (ih21 (k + 1) (zputJ N c1 k (((Int64.ofInt (v k)) * (Int64.ofInt (b ld))) - ((Int64.ofInt (b k)) * (Int64.ofInt (v ld))))) (by omega) (zfr_tr hNf (zfr_putJ rfl)) (fun i hi => by
              rw [zg_putJ]
              by_cases e : i = k
              · subst e
                rw [if_pos ⟨rfl, rfl⟩, if_pos (Nat.lt_succ_self _), zI64_mul, zI64_mul, zI64_sub]
              · rw [if_neg (fun z => e z.2), hNs i hi]
                exact zif_cong (by omega)) (by omega)) [0, 1, 2, 3, 4, 5, 6] rfl rfl
    exact z_to (loop21 _ 0 M (by omega) (zfr_rf _ _) (fun i hi => by rw [if_neg (by omega)]; exact hv i hi) (Nat.lt_succ_self _)) [0, 1, 2, 3, 4, 5, 6] rfl rfl
  · skip
    have hz : v ld = 0 := (zeq64 hrg (b := 0) ⟨by decide, by decide⟩).mp (zcmp0 h9)
    exact rv _ _ _ rfl ⟨rfl, ⟨fun i hi => by rw [zred, if_pos hz]; exact hv i hi, zfr_rf _ _⟩⟩ dX2_reduce_12
set_option maxHeartbeats 4000000 in
set_option maxRecDepth 100000 in
theorem k_X2_extended {E : zE} (hI : zI E) (M : zM) {a w n mm t r : Nat} {cd : Nat → Nat} {rd : Nat → Int} {bs : Nat → Nat → Int} {ld : Nat → Nat} (ha : zRoom a) (hR : zRm M a w n mm cd rd) (ht : t < n) (d : Bool) (hr5 : r ≤ 5) (hbs : ∀ k, k < r → ∀ i, i < zunk w d → M.2 (27 + 1 * k) i = Int64.ofInt (bs k i)) (hld : ∀ k, k < r → M.1 13 k = nI (ld k) ∧ ld k < zunk w d) (hrg : r < zunk w d → ∀ k, k ≤ r → ∀ i, i < zunk w d → zrg (zrall bs ld k (zLn w mm d (cd t) (rd t) t) i)) : zK E yX2_extended (.code yX2_extended cX2_extended 8 (some .int)) (zrm 2 46) [.ref (E.2.2.2 11), .int (nI r), .ref (E.2.2.2 a), .int (nI t), .int (zdr d)] M (zpi (fun v M2 => (zunk w d ≤ r ∧ v = nI r ∧ M2 = M) ∨ (r < zunk w d ∧ ((∃ c, c < zunk w d ∧ (∀ i, i < c → zrall bs ld r (zLn w mm d (cd t) (rd t) t) i = 0) ∧ ¬ zrall bs ld r (zLn w mm d (cd t) (rd t) t) c = 0 ∧ v = nI (r + 1) ∧ M2.1 13 r = nI c) ∨ ((∀ i, i < zunk w d → zrall bs ld r (zLn w mm d (cd t) (rd t) t) i = 0) ∧ v = nI r)) ∧ (∀ i, i < zunk w d → M2.2 (27 + 1 * r) i = Int64.ofInt (zrall bs ld r (zLn w mm d (cd t) (rd t) t) i)) ∧ (∀ k, ¬ k = r → M2.1 13 k = M.1 13 k) ∧ zfr (fun c => c = 13 ∨ c = 27 + 1 * r) M M2))) := by
  refine zK_of hI (by decide) (Nat.le_of_ble_eq_true rfl) (fun x hx ri rz rl rv => ?_)
  show zJ E x 0 [(0, .ref (E.2.2.2 11)), (1, .int (nI r)), (2, .ref (E.2.2.2 a)), (3, .int (nI t)), (4, .int (zdr d))] [] M
  have hu := zunk_le hR.2.1.2 d
  have hge := zRoom_ge ha
  refine z_aload_n hx 2 dX2_extended_0 rfl rfl ?_
  refine z_iload hx 4 dX2_extended_1 rfl ?_
  refine z_callV hx (As := [.int (zdr d)]) (st := []) (k_X3_unknowns hI M ha hR.1 d) zw_357 zy_X3_unknowns ⟨rfl, rfl⟩ (by decide) (zOB_room ha E) rfl rfl rfl rfl (Nat.le_of_ble_eq_true rfl) dX2_extended_3 ?_
  rintro _ M3 ⟨v3, rfl, q3⟩
  obtain ⟨rfl, q3⟩ := q3
  rw [q3]
  show zJ E x 6 _ [.int (nI (zunk w d))] _
  refine z_istore hx (lv2 := [(5, .int (nI (zunk w d))), (0, .ref (E.2.2.2 11)), (1, .int (nI r)), (2, .ref (E.2.2.2 a)), (3, .int (nI t)), (4, .int (zdr d))]) dX2_extended_6 (by decide) rfl ?_
  refine z_iload_n hx 2 dX2_extended_8 rfl rfl ?_
  refine z_iload hx 0 dX2_extended_9 rfl ?_
  refine z_icmp_lt_n (tgt := 16) hx (by omega) (by omega) dX2_extended_11 (by decide) (fun h11 => ?_) (fun h11 => ?_)
  · skip
    refine z_aload_n hx 1 dX2_extended_16 rfl rfl ?_
    refine zg_X2_0 hx zw_163 dX2_extended_17 ?_
    refine z_iload_n hx 2 dX2_extended_20 rfl rfl ?_
    refine z_aald_n hx (zRA_12 E) (by omega) dX2_extended_21 ?_
    refine z_astore hx (lv2 := [(6, .ref (E.2.2.2 (27 + 1 * r))), (5, .int (nI (zunk w d))), (0, .ref (E.2.2.2 11)), (1, .int (nI r)), (2, .ref (E.2.2.2 a)), (3, .int (nI t)), (4, .int (zdr d))]) dX2_extended_22 (by decide) rfl ?_
    refine z_aload_n hx 4 dX2_extended_24 rfl rfl ?_
    refine z_iload_n hx 5 dX2_extended_25 rfl rfl ?_
    refine z_iload hx 6 dX2_extended_26 rfl ?_
    refine z_aload hx 0 dX2_extended_28 rfl ?_
    refine z_callV hx (As := [.int (nI t), .int (zdr d), .ref (E.2.2.2 (27 + 1 * r))]) (st := []) (k_X3_layOut hI M ha (zJA_row (c := 27 + 1 * r) (by omega) (by omega) E) (by omega) hR.1 hR.2.1.1 hR.2.1.2 hR.2.2.1 (by have := hR.2.2.2.2.2.1; omega) (hR.2.2.2.2.2.2 t ht).1 (hR.2.2.2.2.2.2 t ht).2.1 (hR.2.2.2.2.2.2 t ht).2.2.2.1 (hR.2.2.2.2.2.2 t ht).2.2.2.2.1 (hR.2.2.2.2.2.2 t ht).2.2.2.2.2 hR.2.2.2.1 (hR.2.2.2.2.2.2 t ht).2.2.1 d) zw_361 zy_X3_layOut ⟨rfl, rfl⟩ (by decide) (zOB_room ha E) rfl rfl rfl rfl (Nat.le_of_ble_eq_true rfl) dX2_extended_30 ?_
    rintro _ M30 ⟨rfl, q30⟩
    subst q30
    show zJ E x 33 _ [] _
    refine z_iconst hx (v := nI 0) dX2_extended_33 (by decide +kernel) ?_
    refine z_istore hx (lv2 := [(7, .int (nI 0)), (6, .ref (E.2.2.2 (27 + 1 * r))), (5, .int (nI (zunk w d))), (0, .ref (E.2.2.2 11)), (1, .int (nI r)), (2, .ref (E.2.2.2 a)), (3, .int (nI t)), (4, .int (zdr d))]) dX2_extended_34 (by decide) rfl ?_
    have loop36 : ∀ (fuel36 : Nat) (k : Nat) (N : zM) (_ : k ≤ r) (_ : zfr (fun c => c = 27 + 1 * r) M N) (_ : ∀ i, i < zunk w d → N.2 (27 + 1 * r) i = Int64.ofInt (zrall bs ld k (zLn w mm d (cd t) (rd t) t) i)), r - k < fuel36 → zJ E x 36 [(7, .int (nI k)), (6, .ref (E.2.2.2 (27 + 1 * r))), (5, .int (nI (zunk w d))), (0, .ref (E.2.2.2 11)), (1, .int (nI r)), (2, .ref (E.2.2.2 a)), (3, .int (nI t)), (4, .int (zdr d))] [] N := by
      intro fuel36
      induction fuel36 with
      | zero =>
        intros; omega
      | succ fuel36 ih36 =>
        intro k N hk hNf hNs hfuel36
        refine z_iload hx 0 dX2_extended_36 rfl ?_
        refine z_iload_n hx 4 dX2_extended_38 rfl rfl ?_
        refine z_icmp_ge_n (tgt := 69) hx (by omega) (by omega) dX2_extended_39 (by decide) (fun h39 => ?_) (fun h39 => ?_)
        · skip
          have hkr : k = r := by omega
          refine z_iconst hx (v := nI 0) dX2_extended_69 (by decide +kernel) ?_
          refine z_istore hx (lv2 := [(7, .int (nI 0)), (6, .ref (E.2.2.2 (27 + 1 * r))), (5, .int (nI (zunk w d))), (0, .ref (E.2.2.2 11)), (1, .int (nI r)), (2, .ref (E.2.2.2 a)), (3, .int (nI t)), (4, .int (zdr d))]) dX2_extended_70 (by decide) rfl ?_
          have loop72 : ∀ (fuel72 : Nat) (c : Nat) (_ : c ≤ zunk w d) (_ : ∀ i, i < c → zrall bs ld r (zLn w mm d (cd t) (rd t) t) i = 0), zunk w d - c < fuel72 → zJ E x 72 [(7, .int (nI c)), (6, .ref (E.2.2.2 (27 + 1 * r))), (5, .int (nI (zunk w d))), (0, .ref (E.2.2.2 11)), (1, .int (nI r)), (2, .ref (E.2.2.2 a)), (3, .int (nI t)), (4, .int (zdr d))] [] N := by
            intro fuel72
            induction fuel72 with
            | zero =>
              intros; omega
            | succ fuel72 ih72 =>
              intro c hc hz hfuel72
              refine z_iload hx 0 dX2_extended_72 rfl ?_
              refine z_iload hx 2 dX2_extended_74 rfl ?_
              refine z_icmp_ge_n (tgt := 107) hx (by omega) (by omega) dX2_extended_76 (by decide) (fun h76 => ?_) (fun h76 => ?_)
              · skip
                refine z_iload_n hx 4 dX2_extended_107 rfl rfl ?_
                exact ri _ _ _ _ rfl ⟨_, rfl, Or.inr ⟨h11, Or.inr ⟨fun i hi => hz i (by omega), rfl⟩, fun i hi => by rw [hNs i hi, hkr], fun i hi => by rw [(hNf 13 (by omega)).1], zfr_w hNf (fun c h => Or.inr h)⟩⟩ dX2_extended_108
              · skip
                refine z_aload hx 1 dX2_extended_79 rfl ?_
                refine z_iload hx 0 dX2_extended_81 rfl ?_
                refine z_lald_n hx (zJA_row (by omega) (by omega) E) (by omega) dX2_extended_83 ?_
                refine z_eql (b := Int64.ofInt (zrall bs ld k (zLn w mm d (cd t) (rd t) t) c)) (hNs c h76) ?_
                refine z_lconst hx (v := 0) dX2_extended_84 rfl ?_
                refine z_lcmp hx dX2_extended_85 ?_
                refine z_if_eq (tgt := 101) hx dX2_extended_86 (by decide) (fun h86 => ?_) (fun h86 => ?_)
                · skip
                  have hz2 : zrall bs ld r (zLn w mm d (cd t) (rd t) t) c = 0 := by
                    have z := (zeq64 (by rw [hkr]; exact hrg h11 r (Nat.le_refl _) c h76) (b := 0) ⟨by decide, by decide⟩).mp (zcmp0 h86)
                    rwa [hkr] at z
                  refine z_iinc hx (w := nI (c + 1)) (lv2 := [(7, .int (nI (c + 1))), (6, .ref (E.2.2.2 (27 + 1 * r))), (5, .int (nI (zunk w d))), (0, .ref (E.2.2.2 11)), (1, .int (nI r)), (2, .ref (E.2.2.2 a)), (3, .int (nI t)), (4, .int (zdr d))]) 0 dX2_extended_101 rfl (z_inc _) (by decide) rfl ?_
                  refine z_goto (tgt := 72) hx dX2_extended_104 (by decide) ?_
                  exact z_to (ih72 (c + 1) (by omega) (fun i hi => by rcases Nat.lt_or_ge i c with z | z; exact hz i z; rw [show i = c by omega]; exact hz2) (by omega)) [0, 1, 2, 3, 4, 5, 6, 7] rfl rfl
                · skip
                  have hz2 : ¬ zrall bs ld r (zLn w mm d (cd t) (rd t) t) c = 0 := fun z => h86 (by rw [hkr, z]; decide +kernel)
                  refine z_aload_n hx 3 dX2_extended_89 rfl rfl ?_
                  refine zg_X2_1 hx zw_164 dX2_extended_90 ?_
                  refine z_iload_n hx 4 dX2_extended_93 rfl rfl ?_
                  refine z_iload hx 0 dX2_extended_94 rfl ?_
                  refine z_iast_n hx (zIA_13 E) (by omega) dX2_extended_96 ?_
                  refine z_iload_n hx 4 dX2_extended_97 rfl rfl ?_
                  refine z_iconst hx (v := nI 1) dX2_extended_98 (by decide +kernel) ?_
                  refine z_iadd_n hx dX2_extended_99 ?_
                  exact ri _ _ _ _ rfl ⟨_, rfl, Or.inr ⟨h11, Or.inl ⟨c, h76, hz, hz2, rfl, zhtI⟩, fun i hi => by rw [show (zputI N 13 r (nI c)).2 = N.2 from rfl, hNs i hi, hkr], fun i hi => by rw [zg_putI, if_neg (fun z => hi z.2), (hNf 13 (by omega)).1], zfr_tr (zfr_w hNf (fun c h => Or.inr h)) (zfr_putI (Or.inl rfl))⟩⟩ dX2_extended_100
          exact z_to (loop72 _ 0 (by omega) (fun i hi => by omega) (Nat.lt_succ_self _)) [0, 1, 2, 3, 4, 5, 6, 7] rfl rfl
        · skip
          refine z_aload hx 1 dX2_extended_42 rfl ?_
          refine z_aload_n hx 3 dX2_extended_44 rfl rfl ?_
          refine zg_X2_0 hx zw_163 dX2_extended_45 ?_
          refine z_iload hx 0 dX2_extended_48 rfl ?_
          refine z_aald_n hx (zRA_12 E) (by omega) dX2_extended_50 ?_
          refine z_aload_n hx 3 dX2_extended_51 rfl rfl ?_
          refine zg_X2_1 hx zw_164 dX2_extended_52 ?_
          refine z_iload hx 0 dX2_extended_55 rfl ?_
          refine z_iald_n hx (zIA_13 E) (by omega) dX2_extended_57 ?_
          refine z_eqi (b := nI (ld k)) (by rw [(hNf 13 (by omega)).1]; exact (hld k h39).1) ?_
          refine z_iload hx 2 dX2_extended_58 rfl ?_
          refine z_callS hx (As := [.ref (E.2.2.2 (27 + 1 * r)), .ref (E.2.2.2 (27 + 1 * k)), .int (nI (ld k)), .int (nI (zunk w d))]) (st := []) (k_X2_reduce hI N (c1 := 27 + 1 * r) (c2 := 27 + 1 * k) (zJA_row (by omega) (by omega) E) (zJA_row (by omega) (by omega) E) (by omega) hu (hld k h39).2 hNs (fun i hi => by rw [(hNf _ (by omega)).2]; exact hbs k h39 i hi) (hrg h11 k (by omega) _ (hld k h39).2)) zw_369 zy_X2_reduce ⟨rfl, rfl⟩ (by decide) rfl rfl (Nat.le_of_ble_eq_true rfl) dX2_extended_60 ?_
          rintro _ M60 ⟨rfl, q60⟩
          show zJ E x 63 _ [] _
          refine z_iinc hx (w := nI (k + 1)) (lv2 := [(7, .int (nI (k + 1))), (6, .ref (E.2.2.2 (27 + 1 * r))), (5, .int (nI (zunk w d))), (0, .ref (E.2.2.2 11)), (1, .int (nI r)), (2, .ref (E.2.2.2 a)), (3, .int (nI t)), (4, .int (zdr d))]) 0 dX2_extended_63 rfl (z_inc _) (by decide) rfl ?_
          refine z_goto (tgt := 36) hx dX2_extended_66 (by decide) ?_
          exact z_to (ih36 (k + 1) M60 (by omega) (zfr_tr hNf q60.2) (fun i hi => q60.1 i hi) (by omega)) [0, 1, 2, 3, 4, 5, 6, 7] rfl rfl
    exact z_to (loop36 _ 0 (zsetJ M (27 + 1 * r) (fun i => if i ≤ zunk w d then Int64.ofInt (zLn w mm d (cd t) (rd t) t i) else M.2 (27 + 1 * r) i)) (by omega) (zfr_setJ rfl) (fun i hi => by rw [zg_setJ, if_pos rfl, if_pos (by omega)]; rfl) (Nat.lt_succ_self _)) [0, 1, 2, 3, 4, 5, 6, 7] rfl rfl
  · skip
    refine z_iload_n hx 2 dX2_extended_14 rfl rfl ?_
    exact ri _ _ _ _ rfl ⟨_, rfl, Or.inl ⟨h11, rfl, rfl⟩⟩ dX2_extended_15
