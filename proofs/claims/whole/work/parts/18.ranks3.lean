theorem znI_and (a b : Nat) : nI a &&& nI b = nI (a &&& b) := Int32.toBitVec_inj.mp (by
  show BitVec.ofNat 32 a &&& BitVec.ofNat 32 b = BitVec.ofNat 32 (a &&& b)
  exact (BitVec.ofNat_and).symm)
theorem znI_xor (a b : Nat) : nI a ^^^ nI b = nI (a ^^^ b) := Int32.toBitVec_inj.mp (by
  show BitVec.ofNat 32 a ^^^ BitVec.ofNat 32 b = BitVec.ofNat 32 (a ^^^ b)
  exact (BitVec.ofNat_xor).symm)
theorem znI_or (a b : Nat) : nI a ||| nI b = nI (a ||| b) := Int32.toBitVec_inj.mp (by
  show BitVec.ofNat 32 a ||| BitVec.ofNat 32 b = BitVec.ofNat 32 (a ||| b)
  exact (BitVec.ofNat_or).symm)
theorem zshl1 {n : Nat} (h : n ≤ 8) : nI 1 <<< (nI n &&& 31) = nI (2 ^ n) := by
  rcases (show n = 0 ∨ n = 1 ∨ n = 2 ∨ n = 3 ∨ n = 4 ∨ n = 5 ∨ n = 6 ∨ n = 7 ∨ n = 8 by omega) with rfl | rfl | rfl | rfl | rfl | rfl | rfl | rfl | rfl <;> decide +kernel
def zpop (k : Nat) : Nat := k % 2 + k / 2 % 2 + k / 4 % 2 + k / 8 % 2 + k / 16 % 2 + k / 32 % 2 + k / 64 % 2 + k / 128 % 2
def zlow (s : Nat) : Nat := zpop ((s ^^^ (s &&& (s - 1))) - 1)
theorem zlow_lt : ∀ s, s < 256 → ∀ n, n < 9 → s < 2 ^ n → 0 < s → zlow s < n := by decide +kernel
theorem zp2 {n : Nat} (h : n ≤ 8) : 1 ≤ 2 ^ n ∧ 2 ^ n ≤ 256 := by
  rcases (show n = 0 ∨ n = 1 ∨ n = 2 ∨ n = 3 ∨ n = 4 ∨ n = 5 ∨ n = 6 ∨ n = 7 ∨ n = 8 by omega) with rfl | rfl | rfl | rfl | rfl | rfl | rfl | rfl | rfl <;> decide
/-- the basis of a set of lines -/
def zbs (cols : Nat) (vs : Nat → Nat → Int) (s : Nat) : zBs := if h : s = 0 then zb0 else zext cols (zbs cols vs (s &&& (s - 1))) (vs (zlow s))
termination_by s
decreasing_by
  have h1 : s &&& (s - 1) ≤ s - 1 := Nat.and_le_right
  omega
theorem zbs_0 (cols : Nat) (vs : Nat → Nat → Int) : zbs cols vs 0 = zb0 := by rw [zbs]; rfl
theorem zbs_s (cols : Nat) (vs : Nat → Nat → Int) {s : Nat} (h : ¬ s = 0) : zbs cols vs s = zext cols (zbs cols vs (s &&& (s - 1))) (vs (zlow s)) := by rw [zbs, dif_neg h]
theorem zand_lt {s : Nat} (h : ¬ s = 0) : s &&& (s - 1) < s := by
  have h1 : s &&& (s - 1) ≤ s - 1 := Nat.and_le_right
  omega
theorem zbs_ok {cols : Nat} {vs : Nat → Nat → Int} {n : Nat} (hn : n ≤ 8) (hv : ∀ t, t < n → ∀ i, i < cols → zab (vs t i) 7) : ∀ (k s : Nat), s ≤ k → s < 2 ^ n → zBok cols (zbs cols vs s)
  | 0, s, hs, _ => by
    rw [show s = 0 by omega, zbs_0]
    exact ⟨Nat.zero_le _, fun k hk => absurd hk (Nat.not_lt_zero _)⟩
  | k + 1, s, hs, h2 => by
    by_cases e : s = 0
    · rw [e, zbs_0]
      exact ⟨Nat.zero_le _, fun k hk => absurd hk (Nat.not_lt_zero _)⟩
    · have h3 := zand_lt e
      have h4 := (zp2 hn).2
      rw [zbs_s _ _ e]
      exact zext_ok (zbs_ok hn hv k _ (by omega) (by omega)) (hv _ (zlow_lt s (by omega) n (by omega) h2 (by omega)))
/-- the first lines of one basis are the other -/
def zpre (a b : zBs) : Prop := a.1 ≤ b.1 ∧ ∀ k, k < a.1 → b.2.1 k = a.2.1 k ∧ b.2.2 k = a.2.2 k
theorem zpre_rf (a : zBs) : zpre a a := ⟨Nat.le_refl _, fun _ _ => ⟨rfl, rfl⟩⟩
theorem zpre_tr {a b c : zBs} (h1 : zpre a b) (h2 : zpre b c) : zpre a c := ⟨Nat.le_trans h1.1 h2.1, fun k hk => ⟨((h2.2 k (Nat.lt_of_lt_of_le hk h1.1)).1).trans (h1.2 k hk).1, ((h2.2 k (Nat.lt_of_lt_of_le hk h1.1)).2).trans (h1.2 k hk).2⟩⟩
theorem zpre_ext (cols : Nat) (s : zBs) (v : Nat → Int) : zpre s (zext cols s v) := by
  unfold zext
  split
  · exact zpre_rf s
  · split
    · refine ⟨Nat.le_succ _, fun k hk => ?_⟩
      have e : ¬ k = s.1 := by omega
      simp [va_up, e]
    · exact zpre_rf s
def zand : Nat → Nat → Nat
  | 0, s => s
  | j + 1, s => zand j (s &&& (s - 1))
theorem zpre_and (cols : Nat) (vs : Nat → Nat → Int) : ∀ (j s : Nat), zpre (zbs cols vs (zand j s)) (zbs cols vs s)
  | 0, s => zpre_rf _
  | j + 1, s => by
    rw [zand]
    refine zpre_tr (zpre_and cols vs j _) ?_
    by_cases e : s = 0
    · subst e
      exact zpre_rf _
    · rw [zbs_s cols vs e]
      exact zpre_ext _ _ _
theorem zand_all : ∀ s, s < 256 → 0 < s → ∃ j, j < 9 ∧ zand j (s - 1) = s &&& (s - 1) := by decide +kernel
theorem zpre_prev (cols : Nat) (vs : Nat → Nat → Int) {s : Nat} (h : s < 256) (h0 : 0 < s) : zpre (zbs cols vs (s &&& (s - 1))) (zbs cols vs (s - 1)) := by
  obtain ⟨j, -, hj⟩ := zand_all s h h0
  rw [← hj]
  exact zpre_and cols vs j _
theorem zBm_pre {M : zM} {cols : Nat} {a b : zBs} (h : zpre a b) (hm : zBm M cols b) : zBm M cols a := ⟨fun k hk i hi => by rw [← (h.2 k hk).1]; exact hm.1 k (Nat.lt_of_lt_of_le hk h.1) i hi, fun k hk => by rw [← (h.2 k hk).2]; exact hm.2 k (Nat.lt_of_lt_of_le hk h.1)⟩
theorem zbc_ok : ∀ k, k < 256 → ((((((((nI k) - ((((nI k).toUInt32 >>> ((nI 1).toUInt32 &&& Int32.toUInt32 31)).toInt32) &&& 1431655765)) &&& 858993459) + (((((nI k) - ((((nI k).toUInt32 >>> ((nI 1).toUInt32 &&& Int32.toUInt32 31)).toInt32) &&& 1431655765)).toUInt32 >>> ((nI 2).toUInt32 &&& Int32.toUInt32 31)).toInt32) &&& 858993459)) + ((((((nI k) - ((((nI k).toUInt32 >>> ((nI 1).toUInt32 &&& Int32.toUInt32 31)).toInt32) &&& 1431655765)) &&& 858993459) + (((((nI k) - ((((nI k).toUInt32 >>> ((nI 1).toUInt32 &&& Int32.toUInt32 31)).toInt32) &&& 1431655765)).toUInt32 >>> ((nI 2).toUInt32 &&& Int32.toUInt32 31)).toInt32) &&& 858993459)).toUInt32 >>> ((nI 4).toUInt32 &&& Int32.toUInt32 31)).toInt32)) &&& 252645135) + ((((((((nI k) - ((((nI k).toUInt32 >>> ((nI 1).toUInt32 &&& Int32.toUInt32 31)).toInt32) &&& 1431655765)) &&& 858993459) + (((((nI k) - ((((nI k).toUInt32 >>> ((nI 1).toUInt32 &&& Int32.toUInt32 31)).toInt32) &&& 1431655765)).toUInt32 >>> ((nI 2).toUInt32 &&& Int32.toUInt32 31)).toInt32) &&& 858993459)) + ((((((nI k) - ((((nI k).toUInt32 >>> ((nI 1).toUInt32 &&& Int32.toUInt32 31)).toInt32) &&& 1431655765)) &&& 858993459) + (((((nI k) - ((((nI k).toUInt32 >>> ((nI 1).toUInt32 &&& Int32.toUInt32 31)).toInt32) &&& 1431655765)).toUInt32 >>> ((nI 2).toUInt32 &&& Int32.toUInt32 31)).toInt32) &&& 858993459)).toUInt32 >>> ((nI 4).toUInt32 &&& Int32.toUInt32 31)).toInt32)) &&& 252645135).toUInt32 >>> ((nI 8).toUInt32 &&& Int32.toUInt32 31)).toInt32)) + (((((((((nI k) - ((((nI k).toUInt32 >>> ((nI 1).toUInt32 &&& Int32.toUInt32 31)).toInt32) &&& 1431655765)) &&& 858993459) + (((((nI k) - ((((nI k).toUInt32 >>> ((nI 1).toUInt32 &&& Int32.toUInt32 31)).toInt32) &&& 1431655765)).toUInt32 >>> ((nI 2).toUInt32 &&& Int32.toUInt32 31)).toInt32) &&& 858993459)) + ((((((nI k) - ((((nI k).toUInt32 >>> ((nI 1).toUInt32 &&& Int32.toUInt32 31)).toInt32) &&& 1431655765)) &&& 858993459) + (((((nI k) - ((((nI k).toUInt32 >>> ((nI 1).toUInt32 &&& Int32.toUInt32 31)).toInt32) &&& 1431655765)).toUInt32 >>> ((nI 2).toUInt32 &&& Int32.toUInt32 31)).toInt32) &&& 858993459)).toUInt32 >>> ((nI 4).toUInt32 &&& Int32.toUInt32 31)).toInt32)) &&& 252645135) + ((((((((nI k) - ((((nI k).toUInt32 >>> ((nI 1).toUInt32 &&& Int32.toUInt32 31)).toInt32) &&& 1431655765)) &&& 858993459) + (((((nI k) - ((((nI k).toUInt32 >>> ((nI 1).toUInt32 &&& Int32.toUInt32 31)).toInt32) &&& 1431655765)).toUInt32 >>> ((nI 2).toUInt32 &&& Int32.toUInt32 31)).toInt32) &&& 858993459)) + ((((((nI k) - ((((nI k).toUInt32 >>> ((nI 1).toUInt32 &&& Int32.toUInt32 31)).toInt32) &&& 1431655765)) &&& 858993459) + (((((nI k) - ((((nI k).toUInt32 >>> ((nI 1).toUInt32 &&& Int32.toUInt32 31)).toInt32) &&& 1431655765)).toUInt32 >>> ((nI 2).toUInt32 &&& Int32.toUInt32 31)).toInt32) &&& 858993459)).toUInt32 >>> ((nI 4).toUInt32 &&& Int32.toUInt32 31)).toInt32)) &&& 252645135).toUInt32 >>> ((nI 8).toUInt32 &&& Int32.toUInt32 31)).toInt32)).toUInt32 >>> ((nI 16).toUInt32 &&& Int32.toUInt32 31)).toInt32)) &&& nI 63 = nI (zpop k) := by decide +kernel
set_option maxHeartbeats 4000000 in
set_option maxRecDepth 100000 in
theorem k_J6_bitCount_0f7a4 {E : zE} (hI : zI E) (M : zM) (k : Nat) (hk : k < 256) : zK E yJ6_bitCount_0f7a4 (.code yJ6_bitCount_0f7a4 cJ6_bitCount_0f7a4 1 (some .int)) (zrm 0 0) [.int (nI k)] M (zpi (fun v M2 => v = nI (zpop k) ∧ M2 = M)) := by
  refine zK_of hI (by decide) (Nat.le_of_ble_eq_true rfl) (fun x hx ri rz rl rv => ?_)
  show zJ E x 0 [(0, .int (nI k))] [] M
  refine z_iload_n hx 0 dJ6_bitCount_0f7a4_0 rfl rfl ?_
  refine z_iload_n hx 0 dJ6_bitCount_0f7a4_1 rfl rfl ?_
  refine z_iconst hx (v := nI 1) dJ6_bitCount_0f7a4_2 (by decide +kernel) ?_
  refine z_iushr hx (v := ((nI k).toUInt32 >>> ((nI 1).toUInt32 &&& Int32.toUInt32 31)).toInt32) dJ6_bitCount_0f7a4_3 rfl ?_
  refine z_ldcw hx zw_533 dJ6_bitCount_0f7a4_4 ?_
  refine z_iand hx dJ6_bitCount_0f7a4_7 ?_
  refine z_isub hx dJ6_bitCount_0f7a4_8 ?_
  refine z_nmi (fun y9 e9 => ?_)
  refine z_istore_n hx (lv2 := [(0, .int y9)]) dJ6_bitCount_0f7a4_9 rfl (by decide) rfl ?_
  refine z_iload_n hx 0 dJ6_bitCount_0f7a4_10 rfl rfl ?_
  refine z_ldcw hx zw_534 dJ6_bitCount_0f7a4_11 ?_
  refine z_iand hx dJ6_bitCount_0f7a4_14 ?_
  refine z_iload_n hx 0 dJ6_bitCount_0f7a4_15 rfl rfl ?_
  refine z_iconst hx (v := nI 2) dJ6_bitCount_0f7a4_16 (by decide +kernel) ?_
  refine z_iushr hx (v := (y9.toUInt32 >>> ((nI 2).toUInt32 &&& Int32.toUInt32 31)).toInt32) dJ6_bitCount_0f7a4_17 rfl ?_
  refine z_ldcw hx zw_534 dJ6_bitCount_0f7a4_18 ?_
  refine z_iand hx dJ6_bitCount_0f7a4_21 ?_
  refine z_iadd hx dJ6_bitCount_0f7a4_22 ?_
  refine z_nmi (fun y23 e23 => ?_)
  refine z_istore_n hx (lv2 := [(0, .int y23)]) dJ6_bitCount_0f7a4_23 rfl (by decide) rfl ?_
  refine z_iload_n hx 0 dJ6_bitCount_0f7a4_24 rfl rfl ?_
  refine z_iload_n hx 0 dJ6_bitCount_0f7a4_25 rfl rfl ?_
  refine z_iconst hx (v := nI 4) dJ6_bitCount_0f7a4_26 (by decide +kernel) ?_
  refine z_iushr hx (v := (y23.toUInt32 >>> ((nI 4).toUInt32 &&& Int32.toUInt32 31)).toInt32) dJ6_bitCount_0f7a4_27 rfl ?_
  refine z_iadd hx dJ6_bitCount_0f7a4_28 ?_
  refine z_ldcw hx zw_535 dJ6_bitCount_0f7a4_29 ?_
  refine z_iand hx dJ6_bitCount_0f7a4_32 ?_
  refine z_nmi (fun y33 e33 => ?_)
  refine z_istore_n hx (lv2 := [(0, .int y33)]) dJ6_bitCount_0f7a4_33 rfl (by decide) rfl ?_
  refine z_iload_n hx 0 dJ6_bitCount_0f7a4_34 rfl rfl ?_
  refine z_iload_n hx 0 dJ6_bitCount_0f7a4_35 rfl rfl ?_
  refine z_bipush hx (v := nI 8) dJ6_bitCount_0f7a4_36 (by decide +kernel) ?_
  refine z_iushr hx (v := (y33.toUInt32 >>> ((nI 8).toUInt32 &&& Int32.toUInt32 31)).toInt32) dJ6_bitCount_0f7a4_38 rfl ?_
  refine z_iadd hx dJ6_bitCount_0f7a4_39 ?_
  refine z_nmi (fun y40 e40 => ?_)
  refine z_istore_n hx (lv2 := [(0, .int y40)]) dJ6_bitCount_0f7a4_40 rfl (by decide) rfl ?_
  refine z_iload_n hx 0 dJ6_bitCount_0f7a4_41 rfl rfl ?_
  refine z_iload_n hx 0 dJ6_bitCount_0f7a4_42 rfl rfl ?_
  refine z_bipush hx (v := nI 16) dJ6_bitCount_0f7a4_43 (by decide +kernel) ?_
  refine z_iushr hx (v := (y40.toUInt32 >>> ((nI 16).toUInt32 &&& Int32.toUInt32 31)).toInt32) dJ6_bitCount_0f7a4_45 rfl ?_
  refine z_iadd hx dJ6_bitCount_0f7a4_46 ?_
  refine z_nmi (fun y47 e47 => ?_)
  refine z_istore_n hx (lv2 := [(0, .int y47)]) dJ6_bitCount_0f7a4_47 rfl (by decide) rfl ?_
  refine z_iload_n hx 0 dJ6_bitCount_0f7a4_48 rfl rfl ?_
  refine z_bipush hx (v := nI 63) dJ6_bitCount_0f7a4_49 (by decide +kernel) ?_
  refine z_iand hx dJ6_bitCount_0f7a4_51 ?_
  exact ri _ _ _ _ rfl ⟨_, rfl, ⟨by rw [e47, e40, e33, e23, e9]; exact zbc_ok k hk, rfl⟩⟩ dJ6_bitCount_0f7a4_52
theorem zbc_lt {s : Nat} (h : s < 256) (h0 : 0 < s) : (s ^^^ (s &&& (s - 1))) - 1 < 256 := by
  have h1 : s &&& (s - 1) < 2 ^ 8 := by have h1 : s &&& (s - 1) ≤ s - 1 := Nat.and_le_right; omega
  have h2 : s ^^^ (s &&& (s - 1)) < 2 ^ 8 := Nat.xor_lt_two_pow (by omega) h1
  omega
theorem zxor_pos : ∀ s, s < 256 → 0 < s → 1 ≤ s ^^^ (s &&& (s - 1)) := by decide +kernel
set_option maxHeartbeats 4000000 in
set_option maxRecDepth 100000 in
theorem k_X2_ofEach {E : zE} (hI : zI E) (M : zM) {a w n mm : Nat} {cd : Nat → Nat} {rd : Nat → Int} (ha : zRoom a) (hR : zRm M a w n mm cd rd) (d : Bool) : zK E yX2_ofEach (.code yX2_ofEach cX2_ofEach 6 none) (zrm 3 73) [.ref (E.2.2.2 11), .ref (E.2.2.2 a), .int (zdr d)] M (zpv (fun M2 => (∀ k, k < 2 ^ n → M2.1 14 k = nI (zbs (zunk w d) (fun t => zLn w mm d (cd t) (rd t) t) k).1) ∧ zfr (fun c => c = 13 ∨ c = 14 ∨ 27 ≤ c ∧ c ≤ 31) M M2)) := by
  refine zK_of hI (by decide) (Nat.le_of_ble_eq_true rfl) (fun x hx ri rz rl rv => ?_)
  show zJ E x 0 [(0, .ref (E.2.2.2 11)), (1, .ref (E.2.2.2 a)), (2, .int (zdr d))] [] M
  have hu := zunk_le hR.2.1.2 d
  have hge := zRoom_ge ha
  have hn8 := hR.2.2.2.2.2.1
  have hp := zp2 hn8
  have hok : ∀ s, s < 2 ^ n → zBok (zunk w d) (zbs (zunk w d) (fun t => zLn w mm d (cd t) (rd t) t) s) := fun s hs => zbs_ok hn8 (fun t ht => zLn_ab (t := t) (hR.2.2.2.2.2.2 t ht).2.2.1 (by omega)) s s (Nat.le_refl _) hs
  refine z_aload_n hx 0 dX2_ofEach_0 rfl rfl ?_
  refine zg_X2_2 hx zw_165 dX2_ofEach_1 ?_
  refine z_iconst hx (v := nI 0) dX2_ofEach_4 (by decide +kernel) ?_
  refine z_iconst hx (v := nI 0) dX2_ofEach_5 (by decide +kernel) ?_
  refine z_iast_n hx (zIA_14 E) (by omega) dX2_ofEach_6 ?_
  refine z_iconst hx (v := nI 1) dX2_ofEach_7 (by decide +kernel) ?_
  refine z_istore_n hx (lv2 := [(3, .int (nI 1)), (0, .ref (E.2.2.2 11)), (1, .ref (E.2.2.2 a)), (2, .int (zdr d))]) dX2_ofEach_8 rfl (by decide) rfl ?_
  have loop9 : ∀ (fuel9 : Nat) (s : Nat) (N : zM) (_ : 1 ≤ s) (_ : s ≤ 2 ^ n) (_ : zfr (fun c => c = 13 ∨ c = 14 ∨ 27 ≤ c ∧ c ≤ 31) M N) (_ : zBm N (zunk w d) (zbs (zunk w d) (fun t => zLn w mm d (cd t) (rd t) t) (s - 1))) (_ : ∀ k, k < s → N.1 14 k = nI (zbs (zunk w d) (fun t => zLn w mm d (cd t) (rd t) t) k).1), 2 ^ n - s < fuel9 → zJ E x 9 [(3, .int (nI s)), (0, .ref (E.2.2.2 11)), (1, .ref (E.2.2.2 a)), (2, .int (zdr d))] [] N := by
    intro fuel9
    induction fuel9 with
    | zero =>
      intros; omega
    | succ fuel9 ih9 =>
      intro s N hs1 hs hNf hNm hNs hfuel9
      refine z_iload_n hx 0 dX2_ofEach_9 rfl rfl ?_
      refine z_iconst hx (v := nI 1) dX2_ofEach_10 (by decide +kernel) ?_
      refine z_aload_n hx 2 dX2_ofEach_11 rfl rfl ?_
      refine zg_X3_2 hx ha zw_85 dX2_ofEach_12 ?_
      refine z_eqi (b := nI n) (zRm_fr hR hNf (by omega) (by omega) (by omega)).2.2.2.2.1 ?_
      refine z_ishl hx dX2_ofEach_15 ?_
      refine z_eqi (b := nI (2 ^ n)) (zshl1 hn8) ?_
      refine z_icmp_ge_n (tgt := 64) hx (by omega) (by omega) dX2_ofEach_16 (by decide) (fun h16 => ?_) (fun h16 => ?_)
      · skip
        exact rv _ _ _ rfl ⟨rfl, ⟨fun k hk => hNs k (by omega), hNf⟩⟩ dX2_ofEach_64
      · skip
        refine z_iload_n hx 0 dX2_ofEach_19 rfl rfl ?_
        refine z_iload_n hx 0 dX2_ofEach_20 rfl rfl ?_
        refine z_iconst hx (v := nI 1) dX2_ofEach_21 (by decide +kernel) ?_
        refine z_isub_n hx (by omega) dX2_ofEach_22 ?_
        refine z_iand hx dX2_ofEach_23 ?_
        refine z_eqi (b := nI (s &&& (s - 1))) (znI_and _ _) ?_
        refine z_istore hx (lv2 := [(4, .int (nI (s &&& (s - 1)))), (3, .int (nI s)), (0, .ref (E.2.2.2 11)), (1, .ref (E.2.2.2 a)), (2, .int (zdr d))]) dX2_ofEach_24 (by decide) rfl ?_
        refine z_iload_n hx 1 dX2_ofEach_26 rfl rfl ?_
        refine z_iload hx 0 dX2_ofEach_27 rfl ?_
        refine z_ixor hx dX2_ofEach_29 ?_
        refine z_eqi (b := nI (s ^^^ (s &&& (s - 1)))) (znI_xor _ _) ?_
        refine z_iconst hx (v := nI 1) dX2_ofEach_30 (by decide +kernel) ?_
        have hxp : 1 ≤ s ^^^ (s &&& (s - 1)) := zxor_pos s (by omega) (by omega)
        refine z_isub_n hx (by omega) dX2_ofEach_31 ?_
        refine z_callS hx (As := [.int (nI ((s ^^^ (s &&& (s - 1))) - 1))]) (st := []) (k_J6_bitCount_0f7a4 hI N ((s ^^^ (s &&& (s - 1))) - 1) (zbc_lt (by omega) (by omega))) zw_530 zy_J6_bitCount_0f7a4 ⟨rfl, rfl⟩ (by decide) rfl rfl (Nat.le_of_ble_eq_true rfl) dX2_ofEach_32 ?_
        rintro _ M32 ⟨v32, rfl, q32⟩
        obtain ⟨rfl, q32⟩ := q32
        rw [q32]
        show zJ E x 35 _ [.int (nI (zpop ((s ^^^ (s &&& (s - 1))) - 1)))] _
        refine z_istore hx (lv2 := [(5, .int (nI (zpop ((s ^^^ (s &&& (s - 1))) - 1)))), (4, .int (nI (s &&& (s - 1)))), (3, .int (nI s)), (0, .ref (E.2.2.2 11)), (1, .ref (E.2.2.2 a)), (2, .int (zdr d))]) dX2_ofEach_35 (by decide) rfl ?_
        refine z_aload_n hx 3 dX2_ofEach_37 rfl rfl ?_
        refine zg_X2_2 hx zw_165 dX2_ofEach_38 ?_
        refine z_iload_n hx 2 dX2_ofEach_41 rfl rfl ?_
        refine z_aload_n hx 3 dX2_ofEach_42 rfl rfl ?_
        refine z_aload_n hx 3 dX2_ofEach_43 rfl rfl ?_
        refine zg_X2_2 hx zw_165 dX2_ofEach_44 ?_
        refine z_iload hx 1 dX2_ofEach_47 rfl ?_
        refine z_iald_n hx (zIA_14 E) (by have h1 : s &&& (s - 1) ≤ s - 1 := Nat.and_le_right; omega) dX2_ofEach_49 ?_
        refine z_eqi (b := nI ((zbs (zunk w d) (fun t => zLn w mm d (cd t) (rd t) t) (s &&& (s - 1))).1)) (hNs _ (zand_lt (by omega))) ?_
        refine z_aload_n hx 4 dX2_ofEach_50 rfl rfl ?_
        refine z_iload hx 0 dX2_ofEach_51 rfl ?_
        refine z_iload_n hx 5 dX2_ofEach_53 rfl rfl ?_
        refine z_callV hx (As := [.int (nI ((zbs (zunk w d) (fun t => zLn w mm d (cd t) (rd t) t) (s &&& (s - 1))).1)), .ref (E.2.2.2 a), .int (nI (zpop ((s ^^^ (s &&& (s - 1))) - 1))), .int (zdr d)]) (st := [.int (nI s), .ref (E.2.2.2 14)]) (k_X2_extS hI N (t := zlow s) ha (zRm_fr hR hNf (by omega) (by omega) (by omega)) (zlow_lt s (by omega) n (by omega) h16 (by omega)) d (hok _ (by have h1 : s &&& (s - 1) ≤ s - 1 := Nat.and_le_right; omega)) (zBm_pre (zpre_prev _ _ (by omega) (by omega)) hNm)) zw_353 zy_X2_extended ⟨rfl, rfl⟩ (by decide) (zOB_X2 E) rfl rfl rfl rfl (Nat.le_of_ble_eq_true rfl) dX2_ofEach_54 ?_
        rintro _ M54 ⟨v54, rfl, q54⟩
        obtain ⟨rfl, q54⟩ := q54
        show zJ E x 57 _ [.int (nI (zext (zunk w d) (zbs (zunk w d) (fun t => zLn w mm d (cd t) (rd t) t) (s &&& (s - 1))) (zLn w mm d (cd (zlow s)) (rd (zlow s)) (zlow s))).1), .int (nI s), .ref (E.2.2.2 14)] _
        refine z_iast_n hx (zIA_14 E) (by omega) dX2_ofEach_57 ?_
        refine z_iinc hx (w := nI (s + 1)) (lv2 := [(3, .int (nI (s + 1))), (5, .int (nI (zpop ((s ^^^ (s &&& (s - 1))) - 1)))), (4, .int (nI (s &&& (s - 1)))), (0, .ref (E.2.2.2 11)), (1, .ref (E.2.2.2 a)), (2, .int (zdr d))]) 2 dX2_ofEach_58 rfl (z_inc _) (by decide) rfl ?_
        refine z_goto (tgt := 9) hx dX2_ofEach_61 (by decide) ?_
        exact z_to (ih9 (s + 1) (zputI M54 14 s (nI (zext (zunk w d) (zbs (zunk w d) (fun t => zLn w mm d (cd t) (rd t) t) (s &&& (s - 1))) (zLn w mm d (cd (zlow s)) (rd (zlow s)) (zlow s))).1)) (by omega) (by omega) (zfr_tr hNf (zfr_tr (zfr_w q54.2 (fun c h => by omega)) (zfr_putI (Or.inr (Or.inl rfl))))) (by rw [show s + 1 - 1 = s by omega, zbs_s _ _ (show ¬ s = 0 by omega)]; exact ⟨fun k hk i hi => q54.1.1 k hk i hi, fun k hk => by rw [zg_putI, if_neg (by omega)]; exact q54.1.2 k hk⟩) (fun k hk => by
            rw [zg_putI]
            by_cases e : k = s
            · subst e
              rw [if_pos ⟨rfl, rfl⟩, zbs_s _ _ (show ¬ k = 0 by omega)]
            · rw [if_neg (fun z => e z.2), (q54.2 14 (by omega)).1]
              exact hNs k (by omega)) (by omega)) [0, 3, 4, 5] rfl rfl
  exact z_to (loop9 _ 1 (zputI M 14 0 (nI 0)) (Nat.le_refl _) hp.1 (zfr_putI (Or.inr (Or.inl rfl))) (by rw [zbs_0]; exact ⟨fun k hk => absurd hk (Nat.not_lt_zero _), fun k hk => absurd hk (Nat.not_lt_zero _)⟩) (fun k hk => by rw [show k = 0 by omega, zbs_0]; exact zhtI) (Nat.lt_succ_self _)) [0, 1, 2, 3] rfl rfl
