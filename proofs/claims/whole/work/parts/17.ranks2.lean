def zfst (x : Nat → Int) : Nat → Option Nat
  | 0 => none
  | c + 1 => match zfst x c with
    | some i => some i
    | none => if x c = 0 then none else some c
theorem zfst_some {x : Nat → Int} {c : Nat} (h1 : ∀ i, i < c → x i = 0) (h2 : ¬ x c = 0) : ∀ {n : Nat}, c < n → zfst x n = some c
  | 0, h => absurd h (Nat.not_lt_zero _)
  | n + 1, h => by
    have hn : ∀ {m : Nat}, m ≤ c → zfst x m = none := by
      intro m
      induction m with
      | zero => intro _; rfl
      | succ m ih =>
        intro hm
        rw [zfst, ih (by omega)]
        exact if_pos (h1 m (by omega))
    rw [zfst]
    rcases Nat.lt_or_ge c n with q | q
    · rw [zfst_some h1 h2 q]
    · obtain rfl : c = n := by omega
      rw [hn (Nat.le_refl _)]
      exact if_neg h2
theorem zfst_none {x : Nat → Int} : ∀ {n : Nat}, (∀ i, i < n → x i = 0) → zfst x n = none
  | 0, _ => rfl
  | n + 1, h => by
    rw [zfst, zfst_none (fun i hi => h i (by omega))]
    exact if_pos (h n (by omega))
/-- a basis: how many lines, the lines, where each leads -/
abbrev zBs : Type := Nat × (Nat → Nat → Int) × (Nat → Nat)
def zb0 : zBs := (0, fun _ _ => 0, fun _ => 0)
def zext (cols : Nat) (s : zBs) (v : Nat → Int) : zBs := if cols ≤ s.1 then s else match zfst (zrall s.2.1 s.2.2 s.1 v) cols with
  | some c => (s.1 + 1, va_up s.2.1 s.1 (zrall s.2.1 s.2.2 s.1 v), va_up s.2.2 s.1 c)
  | none => s
def zrkS (cols : Nat) (vs : Nat → Nat → Int) : Nat → zBs
  | 0 => zb0
  | t + 1 => zext cols (zrkS cols vs t) (vs t)
def zbd : Nat → Int
  | 0 => 7
  | k + 1 => 2 * zbd k * zbd k
theorem zbd_pos : ∀ k, 7 ≤ zbd k
  | 0 => by decide
  | k + 1 => by
    have h := zbd_pos k
    rw [zbd]
    have h2 : 7 * 7 ≤ zbd k * zbd k := Int.mul_le_mul h h (by decide) (by omega)
    rw [Int.mul_assoc]
    omega
theorem zbd_le (k : Nat) : zbd k ≤ zbd (k + 1) := by
  have h := zbd_pos k
  rw [zbd, Int.mul_assoc]
  have h2 : zbd k * 1 ≤ zbd k * zbd k := Int.mul_le_mul_of_nonneg_left (by omega) (by omega)
  omega
theorem zbd_mono {j : Nat} : ∀ {k : Nat}, j ≤ k → zbd j ≤ zbd k
  | 0, h => by rw [show j = 0 by omega]; exact Int.le_refl _
  | k + 1, h => by
    rcases Nat.lt_or_ge j (k + 1) with q | q
    · exact Int.le_trans (zbd_mono (by omega)) (zbd_le k)
    · rw [show j = k + 1 by omega]; exact Int.le_refl _
def zab (z b : Int) : Prop := -b ≤ z ∧ z ≤ b
theorem zab_mul {x y b : Int} (hb : 0 ≤ b) (hx : zab x b) (hy : zab y b) : zab (x * y) (b * b) := by
  have h1 : x.natAbs ≤ b.natAbs := by have := hx.1; have := hx.2; omega
  have h2 : y.natAbs ≤ b.natAbs := by have := hy.1; have := hy.2; omega
  have h3 : (x * y).natAbs ≤ b.natAbs * b.natAbs := by rw [Int.natAbs_mul]; exact Nat.mul_le_mul h1 h2
  have h4 : (b * b).natAbs = b.natAbs * b.natAbs := Int.natAbs_mul b b
  have h5 : 0 ≤ b * b := Int.mul_nonneg hb hb
  unfold zab
  omega
def zBok (cols : Nat) (s : zBs) : Prop := s.1 ≤ cols ∧ ∀ k, k < s.1 → s.2.2 k < cols ∧ ∀ i, i < cols → zab (s.2.1 k i) (zbd k)
theorem zrall_ab {cols : Nat} {s : zBs} {v : Nat → Int} (hs : zBok cols s) (hv : ∀ i, i < cols → zab (v i) 7) : ∀ k, k ≤ s.1 → ∀ i, i < cols → zab (zrall s.2.1 s.2.2 k v i) (zbd k)
  | 0, _, i, hi => hv i hi
  | k + 1, hk, i, hi => by
    have ih := zrall_ab hs hv k (by omega)
    obtain ⟨h1, h2⟩ := hs.2 k (by omega)
    have hp := zbd_pos k
    show zab (zred (zrall s.2.1 s.2.2 k v) (s.2.1 k) (s.2.2 k) i) _
    unfold zred
    split
    · have := ih i hi
      have := zbd_le k
      unfold zab at *
      omega
    · have a1 := zab_mul (by omega) (ih i hi) (h2 _ h1)
      have a2 := zab_mul (by omega) (h2 i hi) (ih _ h1)
      rw [zbd, Int.mul_assoc]
      show zab (zrall s.2.1 s.2.2 k v i * s.2.1 k (s.2.2 k) - s.2.1 k i * zrall s.2.1 s.2.2 k v (s.2.2 k)) _
      unfold zab at *
      omega
theorem zbd_rg {k : Nat} (h : k ≤ 4) {z : Int} (hz : zab z (zbd k)) : zrg z := by
  have h1 := zbd_mono h
  have h2 : zbd 4 = 1088928047434461184 ∨ zbd 4 < 4611686018427387904 := Or.inr (by decide +kernel)
  have h3 : zbd 4 < 4611686018427387904 := by decide +kernel
  unfold zab at hz
  unfold zrg
  omega
theorem zext_ok {cols : Nat} {s : zBs} {v : Nat → Int} (hs : zBok cols s) (hv : ∀ i, i < cols → zab (v i) 7) : zBok cols (zext cols s v) := by
  unfold zext
  split
  · exact hs
  · split
    · rename_i h1 c hc
      have hcc : c < cols := by
        have : ∀ {n : Nat}, zfst (zrall s.2.1 s.2.2 s.1 v) n = some c → c < n := by
          intro n
          induction n with
          | zero => intro h; cases h
          | succ n ih =>
            intro h
            rw [zfst] at h
            cases hq : zfst (zrall s.2.1 s.2.2 s.1 v) n with
            | some j =>
              rw [hq] at h
              cases h
              have := ih hq
              omega
            | none =>
              rw [hq] at h
              dsimp only at h
              split at h
              · cases h
              · cases h; omega
        exact this hc
      refine ⟨by show s.1 + 1 ≤ cols; omega, fun k hk => ?_⟩
      show (va_up s.2.2 s.1 c) k < cols ∧ ∀ i, i < cols → zab ((va_up s.2.1 s.1 (zrall s.2.1 s.2.2 s.1 v)) k i) (zbd k)
      have hk2 : k < s.1 + 1 := hk
      by_cases e : k = s.1
      · subst e
        simp only [va_up, if_true]
        exact ⟨hcc, fun i hi => zrall_ab hs hv s.1 (Nat.le_refl _) i hi⟩
      · simp only [va_up, if_neg e]
        exact hs.2 k (by omega)
    · exact hs
theorem zrkS_ok {cols : Nat} {vs : Nat → Nat → Int} : ∀ {n : Nat}, (∀ t, t < n → ∀ i, i < cols → zab (vs t i) 7) → zBok cols (zrkS cols vs n)
  | 0, _ => ⟨Nat.zero_le _, fun k hk => absurd hk (Nat.not_lt_zero _)⟩
  | n + 1, h => zext_ok (zrkS_ok (fun t ht => h t (by omega))) (h n (by omega))
def zBm (M : zM) (cols : Nat) (s : zBs) : Prop := (∀ k, k < s.1 → ∀ i, i < cols → M.2 (27 + 1 * k) i = Int64.ofInt (s.2.1 k i)) ∧ ∀ k, k < s.1 → M.1 13 k = nI (s.2.2 k)
theorem zLn_ab {w mm : Nat} {d : Bool} {c : Nat} {r : Int} {t : Nat} (hc : zcode w c) (ht : t < 8) : ∀ i, i < zunk w d → zab (zLn w mm d c r t i) 7 := by
  intro i hi
  unfold zLn
  by_cases q : i < w
  · rw [if_pos q]
    have h := hc.2 (w - 1 - i) (by omega)
    unfold zdig zsgd zab
    generalize c / 10 ^ (w - 1 - i) % 10 = x at h
    split <;> omega
  · rw [if_neg q]
    have : d = true ∧ i = w := by
      unfold zunk at hi
      cases d
      · simp at hi; omega
      · simp at hi; exact ⟨rfl, by omega⟩
    rw [if_pos this]
    unfold zab
    omega

theorem k_X2_extS {E : zE} (hI : zI E) (M : zM) {a w n mm t : Nat} {cd : Nat → Nat} {rd : Nat → Int} {s : zBs} (ha : zRoom a) (hR : zRm M a w n mm cd rd) (ht : t < n) (d : Bool) (hs : zBok (zunk w d) s) (hm : zBm M (zunk w d) s) : zK E yX2_extended (.code yX2_extended cX2_extended 8 (some .int)) (zrm 2 46) [.ref (E.2.2.2 11), .int (nI s.1), .ref (E.2.2.2 a), .int (nI t), .int (zdr d)] M (zpi (fun v M2 => v = nI (zext (zunk w d) s (zLn w mm d (cd t) (rd t) t)).1 ∧ zBm M2 (zunk w d) (zext (zunk w d) s (zLn w mm d (cd t) (rd t) t)) ∧ zfr (fun c => c = 13 ∨ 27 ≤ c ∧ c ≤ 31) M M2)) := by
  have hu := zunk_le hR.2.1.2 d
  have hab := zLn_ab (d := d) (mm := mm) (r := rd t) (t := t) (hR.2.2.2.2.2.2 t ht).2.2.1 (by have := hR.2.2.2.2.2.1; omega)
  refine zK_mono (k_X2_extended hI M (bs := s.2.1) (ld := s.2.2) ha hR ht d (by have := hs.1; omega) hm.1 (fun k hk => ⟨hm.2 k hk, (hs.2 k hk).1⟩) (fun h k hk i hi => zbd_rg (k := k) (by omega) (zrall_ab hs hab k hk i hi))) ?_
  rintro r M2 ⟨v, rfl, h⟩
  refine ⟨v, rfl, ?_⟩
  rcases h with ⟨h1, h2, h3⟩ | ⟨h1, h2, h3, h4, h5⟩
  · rw [zext, if_pos h1]
    rw [h3]
    exact ⟨h2, hm, zfr_rf _ _⟩
  · have hfr : zfr (fun c => c = 13 ∨ 27 ≤ c ∧ c ≤ 31) M M2 := zfr_w h5 (fun c h => by rcases h with rfl | rfl; exact Or.inl rfl; exact Or.inr (by omega))
    have hold : ∀ k, k < s.1 → ∀ i, i < zunk w d → M2.2 (27 + 1 * k) i = Int64.ofInt (s.2.1 k i) := fun k hk i hi => by rw [(h5 (27 + 1 * k) (by omega)).2]; exact hm.1 k hk i hi
    have hold2 : ∀ k, k < s.1 → M2.1 13 k = nI (s.2.2 k) := fun k hk => by rw [h4 k (by omega)]; exact hm.2 k hk
    rcases h2 with ⟨c, c1, c2, c3, c4, c5⟩ | ⟨c1, c2⟩
    · rw [zext, if_neg (by omega), zfst_some c2 c3 c1]
      refine ⟨c4, ⟨fun k hk i hi => ?_, fun k hk => ?_⟩, hfr⟩
      · show M2.2 (27 + 1 * k) i = Int64.ofInt ((va_up s.2.1 s.1 _) k i)
        have hk2 : k < s.1 + 1 := hk
        by_cases e : k = s.1
        · subst e
          simp only [va_up, if_true]
          exact h3 i hi
        · simp only [va_up, if_neg e]
          exact hold k (by omega) i hi
      · show M2.1 13 k = nI ((va_up s.2.2 s.1 c) k)
        have hk2 : k < s.1 + 1 := hk
        by_cases e : k = s.1
        · subst e
          simp only [va_up, if_true]
          exact c5
        · simp only [va_up, if_neg e]
          exact hold2 k (by omega)
    · rw [zext, if_neg (by omega), zfst_none c1]
      exact ⟨c2, ⟨hold, hold2⟩, hfr⟩
set_option maxHeartbeats 4000000 in
set_option maxRecDepth 100000 in
theorem k_X2_ofAll {E : zE} (hI : zI E) (M : zM) {a w n mm : Nat} {cd : Nat → Nat} {rd : Nat → Int} (ha : zRoom a) (hR : zRm M a w n mm cd rd) (d : Bool) : zK E yX2_ofAll (.code yX2_ofAll cX2_ofAll 5 (some .int)) (zrm 3 73) [.ref (E.2.2.2 11), .ref (E.2.2.2 a), .int (zdr d)] M (zpi (fun v M2 => v = nI (zrkS (zunk w d) (fun t => zLn w mm d (cd t) (rd t) t) n).1 ∧ zfr (fun c => c = 13 ∨ 27 ≤ c ∧ c ≤ 31) M M2)) := by
  refine zK_of hI (by decide) (Nat.le_of_ble_eq_true rfl) (fun x hx ri rz rl rv => ?_)
  show zJ E x 0 [(0, .ref (E.2.2.2 11)), (1, .ref (E.2.2.2 a)), (2, .int (zdr d))] [] M
  have hu := zunk_le hR.2.1.2 d
  have hge := zRoom_ge ha
  have hn8 := hR.2.2.2.2.2.1
  have hok : ∀ t, t ≤ n → zBok (zunk w d) (zrkS (zunk w d) (fun t => zLn w mm d (cd t) (rd t) t) t) := fun t ht => zrkS_ok (fun s hs => zLn_ab (t := s) (hR.2.2.2.2.2.2 s (by omega)).2.2.1 (by omega))
  refine z_iconst hx (v := nI 0) dX2_ofAll_0 (by decide +kernel) ?_
  refine z_istore_n hx (lv2 := [(3, .int (nI 0)), (0, .ref (E.2.2.2 11)), (1, .ref (E.2.2.2 a)), (2, .int (zdr d))]) dX2_ofAll_1 rfl (by decide) rfl ?_
  refine z_iconst hx (v := nI 0) dX2_ofAll_2 (by decide +kernel) ?_
  refine z_istore hx (lv2 := [(4, .int (nI 0)), (3, .int (nI 0)), (0, .ref (E.2.2.2 11)), (1, .ref (E.2.2.2 a)), (2, .int (zdr d))]) dX2_ofAll_3 (by decide) rfl ?_
  have loop5 : ∀ (fuel5 : Nat) (t : Nat) (N : zM) (_ : t ≤ n) (_ : zfr (fun c => c = 13 ∨ 27 ≤ c ∧ c ≤ 31) M N) (_ : zBm N (zunk w d) (zrkS (zunk w d) (fun t => zLn w mm d (cd t) (rd t) t) t)), n - t < fuel5 → zJ E x 5 [(4, .int (nI t)), (3, .int (nI ((zrkS (zunk w d) (fun t => zLn w mm d (cd t) (rd t) t) t).1))), (0, .ref (E.2.2.2 11)), (1, .ref (E.2.2.2 a)), (2, .int (zdr d))] [] N := by
    intro fuel5
    induction fuel5 with
    | zero =>
      intros; omega
    | succ fuel5 ih5 =>
      intro t N ht hNf hNm hfuel5
      refine z_iload hx 0 dX2_ofAll_5 rfl ?_
      refine z_aload_n hx 3 dX2_ofAll_7 rfl rfl ?_
      refine zg_X3_2 hx ha zw_85 dX2_ofAll_8 ?_
      refine z_eqi (b := nI n) (zRm_fr hR hNf (by omega) (by omega) (by omega)).2.2.2.2.1 ?_
      refine z_icmp_ge_n (tgt := 30) hx (by omega) (by omega) dX2_ofAll_11 (by decide) (fun h11 => ?_) (fun h11 => ?_)
      · skip
        refine z_iload_n hx 1 dX2_ofAll_30 rfl rfl ?_
        exact ri _ _ _ _ rfl ⟨_, rfl, ⟨by rw [show t = n by omega], hNf⟩⟩ dX2_ofAll_31
      · skip
        refine z_aload_n hx 2 dX2_ofAll_14 rfl rfl ?_
        refine z_iload_n hx 1 dX2_ofAll_15 rfl rfl ?_
        refine z_aload_n hx 3 dX2_ofAll_16 rfl rfl ?_
        refine z_iload hx 0 dX2_ofAll_17 rfl ?_
        refine z_iload_n hx 4 dX2_ofAll_19 rfl rfl ?_
        refine z_callV hx (As := [.int (nI ((zrkS (zunk w d) (fun t => zLn w mm d (cd t) (rd t) t) t).1)), .ref (E.2.2.2 a), .int (nI t), .int (zdr d)]) (st := []) (k_X2_extS hI N (t := t) ha (zRm_fr hR hNf (by omega) (by omega) (by omega)) h11 d (hok t ht) hNm) zw_353 zy_X2_extended ⟨rfl, rfl⟩ (by decide) (zOB_X2 E) rfl rfl rfl rfl (Nat.le_of_ble_eq_true rfl) dX2_ofAll_20 ?_
        rintro _ M20 ⟨v20, rfl, q20⟩
        obtain ⟨rfl, q20⟩ := q20
        show zJ E x 23 _ [.int (nI ((zrkS (zunk w d) (fun t => zLn w mm d (cd t) (rd t) t) (t + 1)).1))] _
        refine z_istore_n hx (lv2 := [(3, .int (nI ((zrkS (zunk w d) (fun t => zLn w mm d (cd t) (rd t) t) (t + 1)).1))), (4, .int (nI t)), (0, .ref (E.2.2.2 11)), (1, .ref (E.2.2.2 a)), (2, .int (zdr d))]) dX2_ofAll_23 rfl (by decide) rfl ?_
        refine z_iinc hx (w := nI (t + 1)) (lv2 := [(4, .int (nI (t + 1))), (3, .int (nI ((zrkS (zunk w d) (fun t => zLn w mm d (cd t) (rd t) t) (t + 1)).1))), (0, .ref (E.2.2.2 11)), (1, .ref (E.2.2.2 a)), (2, .int (zdr d))]) 1 dX2_ofAll_24 rfl (z_inc _) (by decide) rfl ?_
        refine z_goto (tgt := 5) hx dX2_ofAll_27 (by decide) ?_
        exact z_to (ih5 (t + 1) M20 (by omega) (zfr_tr hNf q20.2) q20.1 (by omega)) [0, 1, 2, 3, 4] rfl rfl
  exact z_to (loop5 _ 0 M (by omega) (zfr_rf _ _) ⟨fun k hk => absurd hk (Nat.not_lt_zero _), fun k hk => absurd hk (Nat.not_lt_zero _)⟩ (Nat.lt_succ_self _)) [0, 1, 2, 3, 4] rfl rfl
