/-! determinants of whole numbers, by rows -/
theorem zS_lin (a b : Int) (f g : Nat → Int) : ∀ n, zS n (fun k => a * f k + b * g k) = a * zS n f + b * zS n g
  | 0 => by simp [zS]
  | n + 1 => by rw [zS, zS, zS, zS_lin a b f g n]; grind
theorem zS_mul (a : Int) (f : Nat → Int) : ∀ n, zS n (fun k => a * f k) = a * zS n f
  | 0 => by simp [zS]
  | n + 1 => by rw [zS, zS, zS_mul a f n]; grind
theorem zS_add (f g : Nat → Int) : ∀ n, zS n (fun k => f k + g k) = zS n f + zS n g
  | 0 => by simp [zS]
  | n + 1 => by rw [zS, zS, zS, zS_add f g n]; grind
theorem zS_z {f : Nat → Int} : ∀ {n : Nat}, (∀ k, k < n → f k = 0) → zS n f = 0
  | 0, _ => rfl
  | n + 1, h => by rw [zS, zS_z (fun k hk => h k (Nat.lt_succ_of_lt hk)), h n (Nat.lt_succ_self n)]; rfl
theorem zS_swap (F : Nat → Nat → Int) (m : Nat) : ∀ n, zS n (fun i => zS m (fun j => F i j)) = zS m (fun j => zS n (fun i => F i j))
  | 0 => by rw [zS]; exact (zS_z (fun k hk => rfl)).symm
  | n + 1 => by
    rw [zS, zS_swap F m n, ← zS_add]
    rfl
theorem zS_one {f : Nat → Int} {r : Nat} : ∀ {n : Nat}, r < n → (∀ k, k < n → ¬ k = r → f k = 0) → zS n f = f r
  | n + 1, h, h0 => by
    rw [zS]
    by_cases e : r = n
    · subst e
      rw [zS_z (fun k hk => h0 k (by omega) (by omega))]
      omega
    · rw [zS_one (by omega) (fun k hk hr => h0 k (by omega) hr), h0 n (by omega) (by omega)]
      omega
theorem zS_two {f : Nat → Int} {r : Nat} : ∀ {n : Nat}, r + 1 < n → (∀ k, k < n → ¬ k = r → ¬ k = r + 1 → f k = 0) → zS n f = f r + f (r + 1)
  | n + 1, h, h0 => by
    rw [zS]
    by_cases e : r + 1 = n
    · subst e
      rw [zS_one (r := r) (by omega) (fun k hk hr => h0 k (by omega) hr (by omega))]
    · rw [zS_two (by omega) (fun k hk hr hr2 => h0 k (by omega) hr hr2), h0 n (by omega) (by omega) (by omega)]
      omega
theorem zS_nn {f : Nat → Int} (h : ∀ k, 0 ≤ f k) : ∀ n, 0 ≤ zS n f
  | 0 => Int.le_refl _
  | n + 1 => by rw [zS]; have := zS_nn h n; have := h n; omega
theorem zS_nz {f : Nat → Int} (h : ∀ k, 0 ≤ f k) : ∀ {n : Nat}, zS n f = 0 → ∀ k, k < n → f k = 0
  | n + 1, e, k, hk => by
    rw [zS] at e
    have h1 := zS_nn h n
    have h2 := h n
    by_cases q : k = n
    · subst q; omega
    · exact zS_nz h (n := n) (by omega) k (by omega)
theorem zS_ex {f : Nat → Int} : ∀ {n : Nat}, ¬ zS n f = 0 → ∃ k, k < n ∧ ¬ f k = 0
  | 0, h => absurd rfl h
  | n + 1, h => by
    by_cases e : f n = 0
    · rw [zS, e] at h
      obtain ⟨k, hk, hf⟩ := zS_ex (n := n) (f := f) (by omega)
      exact ⟨k, by omega, hf⟩
    · exact ⟨n, Nat.lt_succ_self n, e⟩
theorem zskp_lt {n i p : Nat} (h : p < n) : zskp i p < n + 1 := by unfold zskp; split <;> omega
theorem zskp_ne (i p : Nat) : ¬ zskp i p = i := by unfold zskp; split <;> omega
theorem zskp_eq {i r p : Nat} (e : ¬ i = r) : zskp i p = r ↔ p = (if r < i then r else r - 1) := by unfold zskp; split <;> split <;> omega
theorem zskp_l {n p : Nat} (h : p < n) : zskp n p = p := if_pos h
def zsg (n i : Nat) : Int := if (n - i) % 2 = 0 then 1 else -1
theorem zdet_s (n : Nat) (A : Nat → Nat → Int) : zdet (n + 1) A = zS (n + 1) (fun i => zsg n i * A i n * zdet n (fun p q => A (zskp i p) q)) := rfl
theorem zdet_cg : ∀ {n : Nat} {A B : Nat → Nat → Int}, (∀ p q, p < n → q < n → A p q = B p q) → zdet n A = zdet n B
  | 0, _, _, _ => rfl
  | n + 1, A, B, h => by
    rw [zdet_s, zdet_s]
    refine zS_cong (fun i hi => ?_)
    rw [h i n hi (Nat.lt_succ_self n), zdet_cg (n := n) (A := fun p q => A (zskp i p) q) (B := fun p q => B (zskp i p) q) (fun p q hp hq => h _ _ (zskp_lt hp) (Nat.lt_succ_of_lt hq))]
def zrw (A : Nat → Nat → Int) (r : Nat) (y : Nat → Int) : Nat → Nat → Int := fun p q => if p = r then y q else A p q
theorem zrw_r (A : Nat → Nat → Int) (r : Nat) (y : Nat → Int) (q : Nat) : zrw A r y r q = y q := if_pos rfl
theorem zrw_n (A : Nat → Nat → Int) {r p : Nat} (y : Nat → Int) (q : Nat) (h : ¬ p = r) : zrw A r y p q = A p q := if_neg h
theorem zrw_skp {A : Nat → Nat → Int} {n r i : Nat} (e : ¬ i = r) (z : Nat → Int) : zdet n (fun p q => zrw A r z (zskp i p) q) = zdet n (zrw (fun p q => A (zskp i p) q) (if r < i then r else r - 1) z) := zdet_cg (fun p q _ _ => by
  by_cases e3 : zskp i p = r
  · rw [e3, zrw_r, (zskp_eq e).mp e3, zrw_r]
  · rw [zrw_n _ _ _ e3, zrw_n _ _ _ (fun z => e3 ((zskp_eq e).mpr z))])
theorem zdet_lin : ∀ {n : Nat} (A : Nat → Nat → Int) (r : Nat) (y z : Nat → Int) (a b : Int), r < n → zdet n (zrw A r (fun q => a * y q + b * z q)) = a * zdet n (zrw A r y) + b * zdet n (zrw A r z)
  | n + 1, A, r, y, z, a, b, hr => by
    rw [zdet_s, zdet_s, zdet_s, ← zS_lin]
    refine zS_cong (fun i hi => ?_)
    by_cases e : i = r
    · subst e
      have e1 : ∀ z : Nat → Int, zdet n (fun p q => zrw A i z (zskp i p) q) = zdet n (fun p q => A (zskp i p) q) := fun z => zdet_cg (fun p q _ _ => zrw_n _ _ _ (zskp_ne i p))
      rw [e1, e1, e1, zrw_r, zrw_r, zrw_r]
      grind
    · rw [zrw_skp e, zrw_skp e, zrw_skp e, zrw_n _ _ _ e, zrw_n _ _ _ e, zrw_n _ _ _ e, zdet_lin _ _ y z a b (by split <;> omega)]
      grind
theorem zdet_zr {n r : Nat} (A : Nat → Nat → Int) (hr : r < n) (h : ∀ q, q < n → A r q = 0) : zdet n A = 0 := by
  have e1 : zdet n A = zdet n (zrw A r (fun q => 0 * A r q + 0 * A r q)) := zdet_cg (fun p q hp hq => by
    by_cases e : p = r
    · subst e; rw [zrw_r, h q hq]; rfl
    · rw [zrw_n _ _ _ e])
  rw [e1, zdet_lin A r _ _ 0 0 hr]
  omega
theorem zdet_adj : ∀ {n : Nat} (A : Nat → Nat → Int) (r : Nat), r + 1 < n → (∀ q, q < n → A r q = A (r + 1) q) → zdet n A = 0
  | n + 1, A, r, hr, h => by
    rw [zdet_s, zS_two (r := r) hr (fun i hi h1 h2 => ?_)]
    · have e1 : zdet n (fun p q => A (zskp r p) q) = zdet n (fun p q => A (zskp (r + 1) p) q) := zdet_cg (fun p q hp hq => by
        by_cases e : p = r
        · subst e
          rw [show zskp p p = p + 1 from if_neg (Nat.lt_irrefl p), show zskp (p + 1) p = p from if_pos (Nat.lt_succ_self p), h q (by omega)]
        · rw [show zskp r p = zskp (r + 1) p by unfold zskp; split <;> split <;> omega])
      rw [e1, h n (by omega)]
      have e2 : zsg n r = -zsg n (r + 1) := by unfold zsg; split <;> split <;> omega
      rw [e2]
      grind
    · rw [zdet_adj (fun p q => A (zskp i p) q) (if r < i then r else r - 1) (by split <;> omega) (fun q hq => ?_)]
      · omega
      · have e1 : zskp i (if r < i then r else r - 1) = r := (zskp_eq h1).mpr rfl
        have e2 : zskp i ((if r < i then r else r - 1) + 1) = r + 1 := by unfold zskp; split <;> split <;> omega
        rw [e1, e2]
        exact h q (by omega)
theorem zrw_2 (A : Nat → Nat → Int) {r s : Nat} (h : ¬ r = s) (y z : Nat → Int) : zrw (zrw A r y) s z = zrw (zrw A s z) r y := by
  funext p q
  unfold zrw
  by_cases e : p = s
  · subst e
    rw [if_pos rfl, if_neg (fun z => h (Eq.symm z)), if_pos rfl]
  · rw [if_neg e]
    by_cases e2 : p = r
    · rw [if_pos e2, if_pos e2]
    · rw [if_neg e2, if_neg e2, if_neg e]
theorem zdet_anti {n r s : Nat} (hr : r < n) (hs : s < n) (hrs : ¬ r = s) (h0 : ∀ A : Nat → Nat → Int, (∀ q, q < n → A r q = A s q) → zdet n A = 0) (A : Nat → Nat → Int) (y z : Nat → Int) : zdet n (zrw (zrw A r y) s z) = -zdet n (zrw (zrw A r z) s y) := by
  have hz : ∀ x1 : Nat → Int, zdet n (zrw (zrw A r x1) s x1) = 0 := fun x1 => h0 _ (fun q _ => by rw [zrw_r, zrw_n _ _ _ hrs, zrw_r])
  have l2 : ∀ x1 : Nat → Int, zdet n (zrw (zrw A r x1) s (fun q => 1 * y q + 1 * z q)) = 1 * zdet n (zrw (zrw A r x1) s y) + 1 * zdet n (zrw (zrw A r x1) s z) := fun x1 => zdet_lin _ s y z 1 1 hs
  have l1 : ∀ x1 : Nat → Int, zdet n (zrw (zrw A r (fun q => 1 * y q + 1 * z q)) s x1) = 1 * zdet n (zrw (zrw A r y) s x1) + 1 * zdet n (zrw (zrw A r z) s x1) := fun x1 => by
    rw [zrw_2 A hrs, zrw_2 A hrs, zrw_2 A hrs]
    exact zdet_lin _ r y z 1 1 hr
  have a := hz (fun q => 1 * y q + 1 * z q)
  rw [l2, l1, l1, hz, hz] at a
  omega
theorem zdet_eqd : ∀ (d : Nat) {n : Nat} (A : Nat → Nat → Int) (r s : Nat), s = r + d + 1 → s < n → (∀ q, q < n → A r q = A s q) → zdet n A = 0
  | 0, n, A, r, s, e, hs, h => zdet_adj A r (by omega) (by rw [e] at h; exact h)
  | d + 1, n, A, r, s, e, hs, h => by
    have e1 : zdet n A = zdet n (zrw (zrw A (s - 1) (A (s - 1))) s (A s)) := zdet_cg (fun p q _ _ => by
      unfold zrw
      by_cases e2 : p = s
      · rw [if_pos e2, e2]
      · rw [if_neg e2]
        by_cases e3 : p = s - 1
        · rw [if_pos e3, e3]
        · rw [if_neg e3])
    rw [e1, zdet_anti (r := s - 1) (by omega) hs (by omega) (fun B hB => zdet_adj B (s - 1) (by omega) (fun q hq => by rw [show s - 1 + 1 = s by omega]; exact hB q hq)), zdet_eqd d _ r (s - 1) (by omega) (by omega) (fun q hq => by
      rw [zrw_n _ _ _ (by omega), zrw_n _ _ _ (by omega), zrw_n _ _ _ (by omega), zrw_r]
      exact h q hq)]
    rfl
theorem zdet_eq {n : Nat} (A : Nat → Nat → Int) {r s : Nat} (hr : r < n) (hs : s < n) (hrs : ¬ r = s) (h : ∀ q, q < n → A r q = A s q) : zdet n A = 0 := by
  rcases Nat.lt_or_gt_of_ne hrs with q | q
  · exact zdet_eqd (s - r - 1) A r s (by omega) hs h
  · exact zdet_eqd (r - s - 1) A s r (by omega) hr (fun q hq => Eq.symm (h q hq))
theorem zdet_swap {n : Nat} (A : Nat → Nat → Int) {r s : Nat} (hr : r < n) (hs : s < n) (hrs : ¬ r = s) (y z : Nat → Int) : zdet n (zrw (zrw A r y) s z) = -zdet n (zrw (zrw A r z) s y) := zdet_anti hr hs hrs (fun B hB => zdet_eq B hr hs hrs hB) A y z
theorem zdet_comb {n : Nat} (A : Nat → Nat → Int) {r : Nat} (hr : r < n) (c : Nat → Int) : zdet n (zrw A r (fun q => zS n (fun l => c l * A l q))) = c r * zdet n A := by
  have key : ∀ m, zdet n (zrw A r (fun q => zS m (fun l => c l * A l q))) = zS m (fun l => c l * zdet n (zrw A r (A l))) := by
    intro m
    induction m with
    | zero => exact zdet_zr _ hr (fun q _ => by rw [zrw_r]; rfl)
    | succ m ih =>
      have e : (fun q => zS (m + 1) (fun l => c l * A l q)) = (fun q => 1 * zS m (fun l => c l * A l q) + c m * A m q) := by
        funext q
        rw [zS]
        omega
      rw [e, zdet_lin A r (fun q => zS m (fun l => c l * A l q)) (A m) 1 (c m) hr, ih, zS]
      omega
  rw [key n, zS_one hr (fun l hl hlr => ?_)]
  · congr 1
    exact zdet_cg (fun p q _ _ => by
      by_cases e : p = r
      · subst e; rw [zrw_r]
      · rw [zrw_n _ _ _ e])
  · rw [zdet_eq (zrw A r (A l)) hr hl (fun z => hlr (Eq.symm z)) (fun q _ => by rw [zrw_r, zrw_n _ _ _ hlr])]
    omega
theorem zdet_last {n : Nat} (A : Nat → Nat → Int) (h : ∀ q, q < n → A n q = 0) : zdet (n + 1) A = A n n * zdet n A := by
  rw [zdet_s, zS_one (Nat.lt_succ_self n) (fun i hi hn => ?_)]
  · have e1 : zsg n n = 1 := by unfold zsg; rw [Nat.sub_self]; rfl
    have e2 : zdet n (fun p q => A (zskp n p) q) = zdet n A := zdet_cg (fun p q hp _ => by rw [zskp_l hp])
    rw [e1, e2]
    grind
  · have e2 : zdet n (fun p q => A (zskp i p) q) = 0 := zdet_zr (r := n - 1) _ (by omega) (fun q hq => by
      rw [show zskp i (n - 1) = n by unfold zskp; split <;> omega]
      exact h q hq)
    rw [e2]
    omega
