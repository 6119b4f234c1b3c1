def zHb (n : Nat) (A : Nat → Nat → Int) (a c e : Nat → Nat) : Prop := (∀ p q, p < n → q < n → zab (A p q) ((a p * (c q * e q) : Nat) : Int)) ∧ (∀ p, p < n → a p = 2 ∨ a p = 9) ∧ (∀ p q, p < n → q < n → a p = 9 → a q = 9 → p = q) ∧ (∀ q, q < n → c q = 4 ∨ c q = 17) ∧ (∀ q, q + 1 < n → c q = 4) ∧ (∀ q, q < n → e q = 1 ∨ e q = 1099) ∧ (∀ p q, p < n → q < n → e p = 1099 → e q = 1099 → p = q)
theorem zcmb {F X Y Z A C E N : Nat} (h1 : 2 * A ≤ X) (h2 : 4 * C ≤ Y) (h3 : E ≤ Z) (h : F * X * (Y * Z) ≤ 8 * N) : F * A * (C * E) ≤ N := by
  have h4 : F * (2 * A) * (4 * C * E) ≤ F * X * (Y * Z) := Nat.mul_le_mul (Nat.mul_le_mul_left F h1) (Nat.mul_le_mul h2 h3)
  have h5 : F * (2 * A) * (4 * C * E) = 8 * (F * A * (C * E)) := by grind
  omega
theorem zcmb2 {F X Y Z A C E N : Nat} (h1 : 2 * A ≤ X) (h2 : C ≤ Y) (h3 : E ≤ Z) (h : F * X * (Y * Z) ≤ 2 * N) : F * A * (C * E) ≤ N := by
  have h4 : F * (2 * A) * (C * E) ≤ F * X * (Y * Z) := Nat.mul_le_mul (Nat.mul_le_mul_left F h1) (Nat.mul_le_mul h2 h3)
  have h5 : F * (2 * A) * (C * E) = 2 * (F * A * (C * E)) := by grind
  omega
theorem zHb_any {n : Nat} {A : Nat → Nat → Int} {a c e : Nat → Nat} (hn : n ≤ 5) (h : zHb n A a c e) {m : Nat} (hm : m ≤ 5) {f g : Nat → Nat} (hf : ∀ t, t < m → f t < n) (hf1 : ∀ t s, t < m → s < m → f t = f s → t = s) (hg : ∀ t, t < m → g t < n) (hg1 : ∀ t s, t < m → s < m → g t = g s → t = s) : zab (zdet m (fun p q => A (f p) (g q))) 90000000000 := by
  obtain ⟨h1, h2, h3, h4, h5, h6, h7⟩ := h
  have hb := zdet_ab m (fun p q => A (f p) (g q)) (fun p => a (f p)) (fun q => c (g q) * e (g q)) (fun p q hp hq => h1 _ _ (hf p hp) (hg q hq))
  have e1 := zprd_one (f := fun p => a (f p)) (lo := 2) (hi := 9) (m := m) (fun q hq => h2 _ (hf q hq)) (fun p q hp hq x1 x2 => hf1 p q hp hq (h3 _ _ (hf p hp) (hf q hq) x1 x2)) (by decide)
  have e2 := zprd_one (f := fun p => c (g p)) (lo := 4) (hi := 17) (m := m) (fun q hq => h4 _ (hg q hq)) (fun p q hp hq x1 x2 => hg1 p q hp hq (by
    have z : ∀ s, s < n → c s = 17 → s + 1 = n := fun s hs z => by
      rcases Nat.lt_or_ge (s + 1) n with y | y
      · have := h5 s y
        omega
      · omega
    have := z _ (hg p hp) x1
    have := z _ (hg q hq) x2
    omega)) (by decide)
  have e3 := zprd_one (f := fun p => e (g p)) (lo := 1) (hi := 1099) (m := m) (fun q hq => h6 _ (hg q hq)) (fun p q hp hq x1 x2 => hg1 p q hp hq (h7 _ _ (hg p hp) (hg q hq) x1 x2)) (by decide)
  rw [Nat.one_mul, Nat.one_pow, Nat.mul_one] at e3
  rw [zprd_mul] at hb
  have e4 := zcmb e1 e2 e3 (znum_8 m (by omega))
  unfold zab at *
  omega
theorem zHb_sm {n : Nat} {A : Nat → Nat → Int} {a c e : Nat → Nat} (hn : n ≤ 5) (h : zHb n A a c e) {m : Nat} (hm : m + 2 ≤ n) {f : Nat → Nat} (hf : ∀ t, t < m → f t < n) (hf1 : ∀ t s, t < m → s < m → f t = f s → t = s) : zab (zdet m (fun p q => A (f p) q)) 20000000 := by
  obtain ⟨h1, h2, h3, h4, h5, h6, h7⟩ := h
  have hb := zdet_ab m (fun p q => A (f p) q) (fun p => a (f p)) (fun q => c q * e q) (fun p q hp hq => h1 _ _ (hf p hp) (by omega))
  have e1 := zprd_one (f := fun p => a (f p)) (lo := 2) (hi := 9) (m := m) (fun q hq => h2 _ (hf q hq)) (fun p q hp hq x1 x2 => hf1 p q hp hq (h3 _ _ (hf p hp) (hf q hq) x1 x2)) (by decide)
  have e2 := zprd_const (f := c) (c := 4) (m := m) (fun q hq => h5 q (by omega))
  have e3 := zprd_one (f := e) (lo := 1) (hi := 1099) (m := m) (fun q hq => h6 _ (by omega)) (fun p q hp hq x1 x2 => h7 _ _ (by omega) (by omega) x1 x2) (by decide)
  rw [Nat.one_mul, Nat.one_pow, Nat.mul_one] at e3
  rw [zprd_mul] at hb
  have e4 := zcmb2 e1 (Nat.le_of_eq e2) e3 (znum_9 m (by omega))
  unfold zab at *
  omega
theorem zBn_of {n : Nat} {A : Nat → Nat → Int} {a c e : Nat → Nat} (hn : n ≤ 5) (h : zHb n A a c e) : zBn n A := by
  intro ρ hρ k i j h1 h2 h3 h4
  have key : ∀ k, k ≤ i → k ≤ j → zab (zm (zpm A ρ) k i j) 90000000000 := fun k h1 h3 => by
    refine zHb_any hn h (m := k + 1) (by omega) (f := fun p => ρ (if p < k then p else i)) (g := fun q => if q < k then q else j) (fun t ht => hρ.1 _ (by split <;> omega)) (fun t s ht hs e => ?_) (fun t ht => by split <;> omega) (fun t s ht hs e => ?_)
    · have := hρ.2 _ _ (by split <;> omega) (by split <;> omega) e
      (repeat' split at this) <;> omega
    · (repeat' split at e) <;> omega
  have kd : zab (zdet k (zpm A ρ)) 90000000000 := zHb_any hn h (m := k) (by omega) (f := ρ) (g := fun q => q) (fun t ht => hρ.1 t (by omega)) (fun t s ht hs e => hρ.2 t s (by omega) (by omega) e) (fun t ht => by omega) (fun t s ht hs e => e)
  refine ⟨zab_rg (key k h1 h3) (by decide), zab_rg kd (by decide), fun h5 h6 => ?_⟩
  have ks := zHb_sm hn h (m := k) (by omega) (f := ρ) (fun t ht => hρ.1 t (by omega)) (fun t s ht hs e => hρ.2 t s (by omega) (by omega) e)
  exact zab_rg (zab_mul2 (by decide) (by decide) (key (k + 1) h5 h6) ks) (by decide)
/-- the m-th of the places that are told by s -/
def zch (s m : Nat) : Nat := ((List.range 5).filter (fun k => decide (s / 2 ^ k % 2 = 1))).getD m 0
theorem zch_1 : ∀ s, s < 32 → ∀ i, i < 5 → s / 2 ^ i % 2 = 1 → zch s (zpk s i) = i := by decide +kernel
theorem zch_2 : ∀ u, u < 6 → ∀ s, s < 2 ^ u → ∀ m, m < zpk s u → zch s m < u := by decide +kernel
theorem zch_3 : ∀ s, s < 32 → ∀ p, p < zpk s 5 → ∀ q, q < zpk s 5 → zch s p = zch s q → p = q := by decide +kernel
theorem zch_4 : ∀ u, u < 6 → ∀ s, s < 2 ^ u → ∀ m, m < zpk s u - 1 → zch s m + 1 < u := by decide +kernel
theorem zpk_le (s : Nat) : ∀ k, zpk s k ≤ k
  | 0 => Nat.le_refl _
  | k + 1 => by
    have h := zpk_le s k
    have h2 : s / 2 ^ k % 2 < 2 := Nat.mod_lt _ (by decide)
    show zpk s k + s / 2 ^ k % 2 ≤ k + 1
    generalize s / 2 ^ k % 2 = z at h2
    omega
theorem zpk_5 : ∀ u, u < 6 → ∀ s, s < 2 ^ u → zpk s u = zpk s 5 := by decide +kernel
/-- what minor lays out -/
def zmn (G : Nat → Nat → Int) (u s : Nat) (t : Int32) : Nat → Nat → Int := fun p q => if nI (zch s q) = t then G (zch s p) u else G (zch s p) (zch s q)
theorem zp32 {u : Nat} (h : u ≤ 5) : 2 ^ u ≤ 32 := by
  rcases (show u = 0 ∨ u = 1 ∨ u = 2 ∨ u = 3 ∨ u = 4 ∨ u = 5 by omega) with rfl | rfl | rfl | rfl | rfl | rfl <;> decide
theorem zmn_b {r : zRo} (hv : zVr r) (d : Bool) (S : Nat → Bool) {s : Nat} (hs : s < 2 ^ zunk r.1 d) (t : Int32) : zBn (zpk s (zunk r.1 d)) (zmn (zGm r d S) (zunk r.1 d) s t) := by
  have hu := zunk_le hv.1.2 d
  have h32 := zp32 hu
  have hle := zpk_le s (zunk r.1 d)
  have h5 := zpk_5 (zunk r.1 d) (by omega) s hs
  have hlt := zch_2 (zunk r.1 d) (by omega) s hs
  have hwu : zunk r.1 d ≤ r.1 + 1 := by unfold zunk; split <;> omega
  have hinj : ∀ p q, p < zpk s (zunk r.1 d) → q < zpk s (zunk r.1 d) → zch s p = zch s q → p = q := fun p q hp hq e => zch_3 s (by omega) p (by omega) q (by omega) e
  refine zBn_of (by omega) (a := fun p => zaa r.1 (zch s p)) (c := fun q => if zch s q < r.1 then 4 else 17) (e := fun q => if nI (zch s q) = t then 1099 else 1) ⟨fun p q hp hq => ?_, fun p hp => ?_, fun p q hp hq e1 e2 => hinj p q hp hq ?_, fun q hq => ?_, fun q hq => if_pos ?_, fun q hq => ?_, fun p q hp hq e1 e2 => hinj p q hp hq ?_⟩
  · unfold zmn
    dsimp only
    have hp2 := hlt p hp
    have hq2 := hlt q hq
    by_cases e : nI (zch s q) = t
    · rw [if_pos e, if_pos e]
      have h := zGm_e hv d S hp2 (Nat.le_refl _)
      have hb : zbq r.1 d (zunk r.1 d) = 4396 := by unfold zbq; rw [if_neg (by unfold zunk; split <;> omega), if_neg (Nat.lt_irrefl _)]
      rw [hb] at h
      have h2 : zaa r.1 (zch s p) * 4396 ≤ zaa r.1 (zch s p) * ((if zch s q < r.1 then 4 else 17) * 1099) := Nat.mul_le_mul_left _ (by split <;> omega)
      unfold zab at *
      omega
    · rw [if_neg e, if_neg e]
      have h := zGm_e hv d S hp2 (Nat.le_of_lt hq2)
      have hb : zbq r.1 d (zch s q) = (if zch s q < r.1 then 4 else 17) * 1 := by
        unfold zbq
        by_cases e3 : zch s q < r.1
        · rw [if_pos e3, if_pos e3]
        · rw [if_neg e3, if_neg e3, if_pos hq2]
      rw [hb] at h
      exact h
  · show zaa r.1 (zch s p) = 2 ∨ zaa r.1 (zch s p) = 9
    unfold zaa
    split
    · exact Or.inl rfl
    · exact Or.inr rfl
  · have z : ∀ p, p < zpk s (zunk r.1 d) → zaa r.1 (zch s p) = 9 → zch s p = r.1 := fun p hp e => by
      have := hlt p hp
      unfold zaa at e
      split at e
      · omega
      · omega
    rw [z p hp e1, z q hq e2]
  · by_cases e : zch s q < r.1
    · exact Or.inl (if_pos e)
    · exact Or.inr (if_neg e)
  · have := zch_4 (zunk r.1 d) (by omega) s hs q (by omega)
    omega
  · by_cases e : nI (zch s q) = t
    · exact Or.inr (if_pos e)
    · exact Or.inl (if_neg e)
  · have z : ∀ p, (if nI (zch s p) = t then 1099 else 1) = 1099 → nI (zch s p) = t := fun p e => by
      by_cases e2 : nI (zch s p) = t
      · exact e2
      · rw [if_neg e2] at e
        omega
    have a1 := hlt p hp
    have a2 := hlt q hq
    exact (nI_eq (by omega) (by omega)).mp ((z p e1).trans (Eq.symm (z q e2)))
theorem zmn_step {V : zM} {n a0 b0 : Nat} {A : Nat → Nat → Int} {v : Int64} (hn : n ≤ 5) (hb : b0 < n) (h : ∀ a b, a < n → b < n → a < a0 ∨ (a = a0 ∧ b < b0) → V.2 43 (5 * a + b) = Int64.ofInt (A a b)) (hv : v = Int64.ofInt (A a0 b0)) : ∀ a b, a < n → b < n → a < a0 ∨ (a = a0 ∧ b < b0 + 1) → (zputJ V 43 (5 * a0 + b0) v).2 43 (5 * a + b) = Int64.ofInt (A a b) := by
  intro a b h1 h2 h3
  rw [zg_putJ]
  by_cases e : a = a0 ∧ b = b0
  · rw [if_pos ⟨rfl, by rw [e.1, e.2]⟩, hv, e.1, e.2]
  · rw [if_neg (by omega)]
    exact h a b h1 h2 (by omega)
set_option maxHeartbeats 4000000 in
set_option maxRecDepth 100000 in
theorem k_X6_minor {E : zE} (hI : zI E) (M : zM) {u s : Nat} {G : Nat → Nat → Int} (hu : u ≤ 5) (hG : zGt M u G) (hs : s < 2 ^ u) (t : Int32) (hB : zBn (zpk s u) (zmn G u s t)) : zK E yX6_minor (.code yX6_minor cX6_minor 6 (some .long)) (zrm 1 30) [.ref (E.2.2.2 32), .int (nI s), .int t] M (zpl (fun v M2 => v = Int64.ofInt (zdet (zpk s u) (zmn G u s t)) ∧ zfr (fun c => c = 43 ∨ c = 44) M M2)) := by
  refine zK_of hI (by decide) (Nat.le_of_ble_eq_true rfl) (fun x hx ri rz rl rv => ?_)
  show zJ E x 0 [(0, .ref (E.2.2.2 32)), (1, .int (nI s)), (2, .int t)] [] M
  have h32 := zp32 hu
  have hlt := zch_2 u (by omega) s hs
  have hpu := zpk_le s u
  refine z_iconst hx (v := nI 0) dX6_minor_0 (by decide +kernel) ?_
  refine z_istore_n hx (lv2 := [(3, .int (nI 0)), (0, .ref (E.2.2.2 32)), (1, .int (nI s)), (2, .int t)]) dX6_minor_1 rfl (by decide) rfl ?_
  refine z_iconst hx (v := nI 0) dX6_minor_2 (by decide +kernel) ?_
  refine z_istore hx (lv2 := [(4, .int (nI 0)), (3, .int (nI 0)), (0, .ref (E.2.2.2 32)), (1, .int (nI s)), (2, .int t)]) dX6_minor_3 (by decide) rfl ?_
  have loop5 : ∀ (fuel5 : Nat) (i : Nat) (N : zM) (_ : i ≤ u) (_ : zfr (fun c => c = 43 ∨ c = 44) M N) (_ : ∀ m, m < zpk s i → N.1 44 m = nI (zch s m)), u - i < fuel5 → zJ E x 5 [(4, .int (nI i)), (3, .int (nI (zpk s i))), (0, .ref (E.2.2.2 32)), (1, .int (nI s)), (2, .int t)] [] N := by
    intro fuel5
    induction fuel5 with
    | zero =>
      intros; omega
    | succ fuel5 ih5 =>
      intro i N hi hNf hN hfuel5
      refine z_iload hx 0 dX6_minor_5 rfl ?_
      refine z_aload_n hx 2 dX6_minor_7 rfl rfl ?_
      refine zg_X6_15 hx zw_591 dX6_minor_8 ?_
      refine z_eqi (b := nI u) (by rw [(hNf 32 (by omega)).1]; exact hG.1) ?_
      refine z_icmp_ge_n (tgt := 40) hx (by omega) (by omega) dX6_minor_11 (by decide) (fun h11 => ?_) (fun h11 => ?_)
      · skip
        refine z_iconst hx (v := nI 0) dX6_minor_40 (by decide +kernel) ?_
        refine z_istore hx (lv2 := [(4, .int (nI 0)), (3, .int (nI (zpk s i))), (0, .ref (E.2.2.2 32)), (1, .int (nI s)), (2, .int t)]) dX6_minor_41 (by decide) rfl ?_
        have eiu : i = u := by omega
        subst eiu
        have loop43 : ∀ (fuel43 : Nat) (a0 : Nat) (Q : zM) (_ : a0 ≤ zpk s i) (_ : zfr (fun c => c = 43 ∨ c = 44) M Q) (_ : Q.1 44 = N.1 44) (_ : (∀ a b, a < zpk s i → b < zpk s i → a < a0 → Q.2 43 (5 * a + b) = Int64.ofInt (zmn G i s t a b))), zpk s i - a0 < fuel43 → zJ E x 43 [(4, .int (nI a0)), (3, .int (nI (zpk s i))), (0, .ref (E.2.2.2 32)), (1, .int (nI s)), (2, .int t)] [] Q := by
          intro fuel43
          induction fuel43 with
          | zero =>
            intros; omega
          | succ fuel43 ih43 =>
            intro a0 Q ha0 hQf hQc hQe hfuel43
            refine z_iload hx 0 dX6_minor_43 rfl ?_
            refine z_iload_n hx 1 dX6_minor_45 rfl rfl ?_
            refine z_icmp_ge_n (tgt := 130) hx (by omega) (by omega) dX6_minor_46 (by decide) (fun h46 => ?_) (fun h46 => ?_)
            · skip
              refine z_aload_n hx 2 dX6_minor_130 rfl rfl ?_
              refine z_iload_n hx 1 dX6_minor_131 rfl rfl ?_
              refine z_callV hx (As := [.int (nI (zpk s i))]) (st := []) (k_X6_determinant hI Q (n := zpk s i) (by omega) (A := zmn G i s t) (fun a b h1 h2 => hQe a b h1 h2 (by omega)) hB) zw_788 zy_X6_determinant ⟨rfl, rfl⟩ (by decide) (zOB_X6 E) rfl rfl rfl rfl (Nat.le_of_ble_eq_true rfl) dX6_minor_132 ?_
              rintro _ M132 ⟨v132, rfl, q132⟩
              show zJ E x 135 _ [.long v132] _
              exact rl _ _ _ _ rfl ⟨_, rfl, ⟨q132.1, zfr_tr hQf (zfr_w q132.2 (fun c z => Or.inl z))⟩⟩ dX6_minor_135
            · skip
              refine z_iconst hx (v := nI 0) dX6_minor_49 (by decide +kernel) ?_
              refine z_istore hx (lv2 := [(5, .int (nI 0)), (4, .int (nI a0)), (3, .int (nI (zpk s i))), (0, .ref (E.2.2.2 32)), (1, .int (nI s)), (2, .int t)]) dX6_minor_50 (by decide) rfl ?_
              have loop52 : ∀ (fuel52 : Nat) (b0 : Nat) (V : zM) (_ : b0 ≤ zpk s i) (_ : zfr (fun c => c = 43 ∨ c = 44) M V) (_ : V.1 44 = N.1 44) (_ : (∀ a b, a < zpk s i → b < zpk s i → a < a0 ∨ (a = a0 ∧ b < b0) → V.2 43 (5 * a + b) = Int64.ofInt (zmn G i s t a b))), zpk s i - b0 < fuel52 → zJ E x 52 [(5, .int (nI b0)), (4, .int (nI a0)), (3, .int (nI (zpk s i))), (0, .ref (E.2.2.2 32)), (1, .int (nI s)), (2, .int t)] [] V := by
                intro fuel52
                induction fuel52 with
                | zero =>
                  intros; omega
                | succ fuel52 ih52 =>
                  intro b0 V hb0 hVf hVc hVe hfuel52
                  refine z_iload hx 0 dX6_minor_52 rfl ?_
                  refine z_iload_n hx 2 dX6_minor_54 rfl rfl ?_
                  refine z_icmp_ge_n (tgt := 124) hx (by omega) (by omega) dX6_minor_55 (by decide) (fun h55 => ?_) (fun h55 => ?_)
                  · skip
                    refine z_iinc hx (w := nI (a0 + 1)) (lv2 := [(4, .int (nI (a0 + 1))), (5, .int (nI b0)), (3, .int (nI (zpk s i))), (0, .ref (E.2.2.2 32)), (1, .int (nI s)), (2, .int t)]) 1 dX6_minor_124 rfl (z_inc _) (by decide) rfl ?_
                    refine z_goto (tgt := 43) hx dX6_minor_127 (by decide) ?_
                    exact z_to (ih43 (a0 + 1) V (by omega) hVf hVc (fun a b h1 h2 h3 => hVe a b h1 h2 (by omega)) (by omega)) [0, 2, 3, 4, 5] rfl rfl
                  · skip
                    refine z_aload_n hx 3 dX6_minor_58 rfl rfl ?_
                    refine zg_X6_19 hx zw_595 dX6_minor_59 ?_
                    refine z_iconst hx (v := nI 5) dX6_minor_62 (by decide +kernel) ?_
                    refine z_iload hx 1 dX6_minor_63 rfl ?_
                    refine z_imul_n hx dX6_minor_65 ?_
                    refine z_iload hx 0 dX6_minor_66 rfl ?_
                    refine z_iadd_n hx dX6_minor_68 ?_
                    refine z_aload_n hx 3 dX6_minor_69 rfl rfl ?_
                    refine zg_X6_20 hx zw_596 dX6_minor_70 ?_
                    have hlb0 := hlt b0 (by omega)
                    refine z_iload hx 0 dX6_minor_73 rfl ?_
                    refine z_iald_n hx (zIA_44 E) (by omega) dX6_minor_75 ?_
                    refine z_eqi (b := nI (zch s b0)) (by rw [hVc]; exact hN b0 (by omega)) ?_
                    refine z_iload_n hx 5 dX6_minor_76 rfl rfl ?_
                    refine z_icmp_ne (tgt := 95) hx dX6_minor_77 (by decide) (fun h77 => ?_) (fun h77 => ?_)
                    · skip
                      have hla := hlt a0 (by omega)
                      have hlb := hlt b0 (by omega)
                      refine z_aload_n hx 3 dX6_minor_95 rfl rfl ?_
                      refine zg_X6_16 hx zw_592 dX6_minor_96 ?_
                      refine z_iconst hx (v := nI 5) dX6_minor_99 (by decide +kernel) ?_
                      refine z_aload_n hx 3 dX6_minor_100 rfl rfl ?_
                      refine zg_X6_20 hx zw_596 dX6_minor_101 ?_
                      refine z_iload hx 1 dX6_minor_104 rfl ?_
                      refine z_iald_n hx (zIA_44 E) (by omega) dX6_minor_106 ?_
                      refine z_eqi (b := nI (zch s a0)) (by rw [hVc]; exact hN a0 (by omega)) ?_
                      refine z_imul_n hx dX6_minor_107 ?_
                      refine z_aload_n hx 3 dX6_minor_108 rfl rfl ?_
                      refine zg_X6_20 hx zw_596 dX6_minor_109 ?_
                      refine z_iload hx 0 dX6_minor_112 rfl ?_
                      refine z_iald_n hx (zIA_44 E) (by omega) dX6_minor_114 ?_
                      refine z_eqi (b := nI (zch s b0)) (by rw [hVc]; exact hN b0 (by omega)) ?_
                      refine z_iadd_n hx dX6_minor_115 ?_
                      refine z_lald_n hx (zJA_41 E) (by omega) dX6_minor_116 ?_
                      refine z_eql (b := Int64.ofInt (G (zch s a0) (zch s b0))) (by rw [(hVf 41 (by omega)).2]; exact hG.2.1 _ _ (hlt a0 (by omega)) (hlt b0 (by omega))) ?_
                      refine z_last_n hx (zJA_43 E) (by omega) dX6_minor_117 ?_
                      refine z_iinc hx (w := nI (b0 + 1)) (lv2 := [(5, .int (nI (b0 + 1))), (4, .int (nI a0)), (3, .int (nI (zpk s i))), (0, .ref (E.2.2.2 32)), (1, .int (nI s)), (2, .int t)]) 0 dX6_minor_118 rfl (z_inc _) (by decide) rfl ?_
                      refine z_goto (tgt := 52) hx dX6_minor_121 (by decide) ?_
                      exact z_to (ih52 (b0 + 1) (zputJ V 43 ((5 * a0) + b0) (Int64.ofInt (G (zch s a0) (zch s b0)))) (by omega) (zfr_tr hVf (zfr_putJ (Or.inl rfl))) hVc (zmn_step (by omega) (by omega) hVe (by unfold zmn; rw [if_neg h77])) (by omega)) [0, 1, 2, 3, 4, 5] rfl rfl
                    · skip
                      have hla := hlt a0 (by omega)
                      refine z_aload_n hx 3 dX6_minor_80 rfl rfl ?_
                      refine zg_X6_17 hx zw_593 dX6_minor_81 ?_
                      refine z_aload_n hx 3 dX6_minor_84 rfl rfl ?_
                      refine zg_X6_20 hx zw_596 dX6_minor_85 ?_
                      refine z_iload hx 1 dX6_minor_88 rfl ?_
                      refine z_iald_n hx (zIA_44 E) (by omega) dX6_minor_90 ?_
                      refine z_eqi (b := nI (zch s a0)) (by rw [hVc]; exact hN a0 (by omega)) ?_
                      refine z_lald_n hx (zJA_42 E) (by omega) dX6_minor_91 ?_
                      refine z_eql (b := Int64.ofInt (G (zch s a0) i)) (by rw [(hVf 42 (by omega)).2]; exact hG.2.2.1 _ (hlt a0 (by omega))) ?_
                      refine z_goto (tgt := 117) hx dX6_minor_92 (by decide) ?_
                      refine z_last_n hx (zJA_43 E) (by omega) dX6_minor_117 ?_
                      refine z_iinc hx (w := nI (b0 + 1)) (lv2 := [(5, .int (nI (b0 + 1))), (4, .int (nI a0)), (3, .int (nI (zpk s i))), (0, .ref (E.2.2.2 32)), (1, .int (nI s)), (2, .int t)]) 0 dX6_minor_118 rfl (z_inc _) (by decide) rfl ?_
                      refine z_goto (tgt := 52) hx dX6_minor_121 (by decide) ?_
                      exact z_to (ih52 (b0 + 1) (zputJ V 43 ((5 * a0) + b0) (Int64.ofInt (G (zch s a0) i))) (by omega) (zfr_tr hVf (zfr_putJ (Or.inl rfl))) hVc (zmn_step (by omega) (by omega) hVe (by unfold zmn; rw [if_pos h77])) (by omega)) [0, 1, 2, 3, 4, 5] rfl rfl
              exact z_to (loop52 _ 0 Q (Nat.zero_le _) hQf hQc (fun a b h1 h2 h3 => hQe a b h1 h2 (by omega)) (Nat.lt_succ_self _)) [0, 1, 2, 3, 4, 5] rfl rfl
        exact z_to (loop43 _ 0 N (Nat.zero_le _) hNf rfl (fun a b _ _ z => absurd z (Nat.not_lt_zero _)) (Nat.lt_succ_self _)) [0, 1, 2, 3, 4] rfl rfl
      · skip
        have hzi := zpk_le s i
        refine z_iload_n hx 3 dX6_minor_14 rfl rfl ?_
        refine z_iload hx 0 dX6_minor_15 rfl ?_
        refine z_callS hx (As := [.int (nI s), .int (nI i)]) (st := []) (k_X6_has hI N s i (by omega) (by omega)) zw_763 zy_X6_has ⟨rfl, rfl⟩ (by decide) rfl rfl (Nat.le_of_ble_eq_true rfl) dX6_minor_17 ?_
        rintro _ M17 ⟨v17, rfl, q17⟩
        obtain ⟨q17, hmm⟩ := q17
        rw [hmm]
        rcases q17 with ⟨q17, rfl⟩ | ⟨q17, rfl⟩
        · skip
          show zJ E x 20 _ [.int (nI 1)] _
          refine z_if_eq_n (tgt := 34) hx (by decide) dX6_minor_20 (by decide) (fun h => absurd h (by decide)) (fun _ => ?_)
          have hz1 : zpk s (i + 1) = zpk s i + 1 := by show zpk s i + s / 2 ^ i % 2 = _; rw [q17]
          refine z_aload_n hx 2 dX6_minor_23 rfl rfl ?_
          refine zg_X6_20 hx zw_596 dX6_minor_24 ?_
          refine z_iload_n hx 1 dX6_minor_27 rfl rfl ?_
          refine z_iload hx 0 dX6_minor_28 rfl ?_
          refine z_iast_n hx (zIA_44 E) (by omega) dX6_minor_30 ?_
          refine z_iinc hx (w := nI (zpk s i + 1)) (lv2 := [(3, .int (nI (zpk s i + 1))), (4, .int (nI i)), (0, .ref (E.2.2.2 32)), (1, .int (nI s)), (2, .int t)]) 1 dX6_minor_31 rfl (z_inc _) (by decide) rfl ?_
          refine z_iinc hx (w := nI (i + 1)) (lv2 := [(4, .int (nI (i + 1))), (3, .int (nI (zpk s i + 1))), (0, .ref (E.2.2.2 32)), (1, .int (nI s)), (2, .int t)]) 1 dX6_minor_34 rfl (z_inc _) (by decide) rfl ?_
          refine z_goto (tgt := 5) hx dX6_minor_37 (by decide) ?_
          exact z_to (ih5 (i + 1) (zputI N 44 (zpk s i) (nI i)) (by omega) (zfr_tr hNf (zfr_putI (Or.inr rfl))) (fun m hm => by
              rw [zg_putI]
              have hm2 : m < zpk s i + 1 := by rw [hz1] at hm; exact hm
              by_cases e : m = zpk s i
              · rw [if_pos ⟨rfl, e⟩, e, zch_1 s (by omega) i (by omega) q17]
              · rw [if_neg (fun z => e z.2)]
                exact hN m (by omega)) (by omega)) [0, 1, 2, 3, 4] (by rw [hz1]; rfl) rfl
        · skip
          show zJ E x 20 _ [.int (nI 0)] _
          refine z_if_eq_n (tgt := 34) hx (by decide) dX6_minor_20 (by decide) (fun _ => ?_) (fun h => absurd h (by decide))
          have hz0 : zpk s (i + 1) = zpk s i := by show zpk s i + s / 2 ^ i % 2 = _; have h2 : s / 2 ^ i % 2 < 2 := Nat.mod_lt _ (by decide); generalize s / 2 ^ i % 2 = z at *; omega
          refine z_iinc hx (w := nI (i + 1)) (lv2 := [(4, .int (nI (i + 1))), (3, .int (nI (zpk s i))), (0, .ref (E.2.2.2 32)), (1, .int (nI s)), (2, .int t)]) 0 dX6_minor_34 rfl (z_inc _) (by decide) rfl ?_
          refine z_goto (tgt := 5) hx dX6_minor_37 (by decide) ?_
          exact z_to (ih5 (i + 1) N (by omega) hNf (fun m hm => hN m (by rw [hz0] at hm; exact hm)) (by omega)) [0, 1, 2, 3, 4] (by rw [hz0]; rfl) rfl
  exact z_to (loop5 _ 0 M (Nat.zero_le _) (zfr_rf _ _) (fun m hm => absurd hm (Nat.not_lt_zero _)) (Nat.lt_succ_self _)) [0, 1, 2, 3, 4] rfl rfl
