/-! bordered minors -/
def zbrd (A : Nat → Nat → Int) (k i j : Nat) : Nat → Nat → Int := fun p q => A (if p < k then p else i) (if q < k then q else j)
def zm (A : Nat → Nat → Int) (k i j : Nat) : Int := zdet (k + 1) (zbrd A k i j)
def zco (A : Nat → Nat → Int) (k i l : Nat) : Int := zsg k l * zdet k (fun p q => A (if zskp l p < k then zskp l p else i) q)
theorem zm_lin (A : Nat → Nat → Int) (k i j : Nat) : zm A k i j = zdet k A * A i j + zS k (fun l => zco A k i l * A l j) := by
  rw [zm, zdet_s, zS]
  have e1 : zS k (fun l => zsg k l * zbrd A k i j l k * zdet k (fun p q => zbrd A k i j (zskp l p) q)) = zS k (fun l => zco A k i l * A l j) := zS_cong (fun l hl => by
    have e2 : zdet k (fun p q => zbrd A k i j (zskp l p) q) = zdet k (fun p q => A (if zskp l p < k then zskp l p else i) q) := zdet_cg (fun p q _ hq => by unfold zbrd; rw [if_pos hq])
    have e3 : zbrd A k i j l k = A l j := by unfold zbrd; rw [if_pos hl, if_neg (Nat.lt_irrefl k)]
    rw [e2, e3, zco]
    grind)
  have e4 : zdet k (fun p q => zbrd A k i j (zskp k p) q) = zdet k A := zdet_cg (fun p q hp hq => by unfold zbrd; rw [zskp_l hp, if_pos hp, if_pos hq])
  have e5 : zbrd A k i j k k = A i j := by unfold zbrd; rw [if_neg (Nat.lt_irrefl k), if_neg (Nat.lt_irrefl k)]
  have e6 : zsg k k = 1 := by unfold zsg; rw [Nat.sub_self]; rfl
  rw [e1, e4, e5, e6]
  grind
theorem zm_comb (A : Nat → Nat → Int) (k i j : Nat) (c : Nat → Int) (e : Int) (X : Nat → Int) (hX : ∀ q, X q = e * A i q + zS k (fun l => c l * A l q)) (h0 : ∀ q, q < k → X q = 0) : e * zm A k i j = X j * zdet k A := by
  have hc := zdet_comb (n := k + 1) (zbrd A k i j) (r := k) (Nat.lt_succ_self k) (fun l => if l < k then c l else e)
  rw [if_neg (Nat.lt_irrefl k)] at hc
  have hrow : ∀ q, q < k + 1 → zS (k + 1) (fun l => (if l < k then c l else e) * zbrd A k i j l q) = X (if q < k then q else j) := by
    intro q hq
    rw [zS, hX, if_neg (Nat.lt_irrefl k)]
    have e1 : zS k (fun l => (if l < k then c l else e) * zbrd A k i j l q) = zS k (fun l => c l * A l (if q < k then q else j)) := zS_cong (fun l hl => by unfold zbrd; rw [if_pos hl, if_pos hl])
    have e2 : zbrd A k i j k q = A i (if q < k then q else j) := by unfold zbrd; rw [if_neg (Nat.lt_irrefl k)]
    rw [e1, e2]
    omega
  have hl := zdet_last (n := k) (zrw (zbrd A k i j) k (fun q => zS (k + 1) (fun l => (if l < k then c l else e) * zbrd A k i j l q))) (fun q hq => by rw [zrw_r, hrow q (by omega), if_pos hq]; exact h0 q hq)
  rw [hc, zrw_r, hrow k (by omega), if_neg (Nat.lt_irrefl k)] at hl
  have e3 : zdet k (zrw (zbrd A k i j) k (fun q => zS (k + 1) (fun l => (if l < k then c l else e) * zbrd A k i j l q))) = zdet k A := zdet_cg (fun p q hp hq => by
    rw [zrw_n _ _ _ (by omega)]
    unfold zbrd
    rw [if_pos hp, if_pos hq])
  rw [e3] at hl
  exact hl
theorem zm_D (A : Nat → Nat → Int) (k : Nat) : zm A k k k = zdet (k + 1) A := zdet_cg (fun p q hp hq => by
  unfold zbrd
  congr 1
  · split <;> omega
  · split <;> omega)
theorem zm_0 (A : Nat → Nat → Int) (i j : Nat) : zm A 0 i j = A i j := by
  rw [zm_lin]
  show 1 * A i j + 0 = A i j
  omega
theorem zm_step {A : Nat → Nat → Int} {k : Nat} (hV : ∀ i j, j < k → zm A k i j = 0) (hE : ¬ zm A k k k = 0) (i j : Nat) : zdet k A * zm A (k + 1) i j = zm A k k k * zm A k i j - zm A k i k * zm A k k j := by
  have h := zm_comb A (k + 1) i j (fun l => if l < k then zm A k k k * zco A k i l - zm A k i k * zco A k k l else -(zm A k i k * zdet k A)) (zm A k k k * zdet k A) (fun q => zm A k k k * zm A k i q - zm A k i k * zm A k k q) (fun q => ?_) (fun q hq => ?_)
  · rw [← zm_D A k] at h
    refine Int.eq_of_mul_eq_mul_left hE ?_
    grind
  · rw [zS, if_neg (Nat.lt_irrefl k)]
    have e1 : zS k (fun l => (if l < k then zm A k k k * zco A k i l - zm A k i k * zco A k k l else -(zm A k i k * zdet k A)) * A l q) = zm A k k k * zS k (fun l => zco A k i l * A l q) + -(zm A k i k) * zS k (fun l => zco A k k l * A l q) := by
      rw [← zS_lin]
      exact zS_cong (fun l hl => by rw [if_pos hl]; grind)
    rw [e1, zm_lin A k i q, zm_lin A k k q]
    generalize zS k (fun l => zco A k i l * A l q) = s1
    generalize zS k (fun l => zco A k k l * A l q) = s2
    generalize zm A k k k = s3
    generalize zm A k i k = s4
    generalize zdet k A = s5
    grind
  · show zm A k k k * zm A k i q - zm A k i k * zm A k k q = 0
    by_cases e : q = k
    · subst e
      grind
    · rw [hV i q (by omega), hV k q (by omega)]
      omega
theorem zm_Vk {A : Nat → Nat → Int} : ∀ k, (∀ j, j ≤ k → ¬ zdet j A = 0) → ∀ i j, j < k → zm A k i j = 0
  | 0, _, _, _, h => absurd h (Nat.not_lt_zero _)
  | k + 1, hd, i, j, hj => by
    have hV := zm_Vk k (fun l hl => hd l (by omega))
    have hE : ¬ zm A k k k = 0 := by rw [zm_D]; exact hd (k + 1) (Nat.le_refl _)
    have h := zm_step hV hE i j
    refine (Int.mul_eq_zero.mp (h.trans ?_)).resolve_left (hd k (by omega))
    by_cases e : j = k
    · subst e
      grind
    · rw [hV i j (by omega), hV k j (by omega)]
      omega
theorem zm_rec {A : Nat → Nat → Int} {k : Nat} (hd : ∀ j, j ≤ k + 1 → ¬ zdet j A = 0) (i j : Nat) : zdet k A * zm A (k + 1) i j = zdet (k + 1) A * zm A k i j - zm A k i k * zm A k k j := by
  rw [← zm_D A k]
  exact zm_step (zm_Vk k (fun l hl => hd l (by omega))) (by rw [zm_D]; exact hd (k + 1) (Nat.le_refl _)) i j
/-! tables of sums of products -/
def zgv (A f : Nat → Nat → Int) (k i t : Nat) : Int := zdet k A * f t i + zS k (fun l => zco A k i l * f t l)
theorem zgv_m {A f : Nat → Nat → Int} {n : Nat} (hA : ∀ i j, A i j = zS n (fun t => f t i * f t j)) (k i j : Nat) : zS n (fun t => zgv A f k i t * f t j) = zm A k i j := by
  rw [zm_lin, hA i j]
  have e1 : zS n (fun t => zgv A f k i t * f t j) = zdet k A * zS n (fun t => f t i * f t j) + 1 * zS n (fun t => zS k (fun l => zco A k i l * f t l * f t j)) := by
    rw [← zS_lin]
    refine zS_cong (fun t _ => ?_)
    have e2 : zS k (fun l => zco A k i l * f t l * f t j) = f t j * zS k (fun l => zco A k i l * f t l) := by
      rw [← zS_mul]
      exact zS_cong (fun l _ => by grind)
    rw [e2, zgv]
    grind
  rw [e1, zS_swap (fun t l => zco A k i l * f t l * f t j) k n]
  have e3 : zS k (fun l => zS n (fun t => zco A k i l * f t l * f t j)) = zS k (fun l => zco A k i l * A l j) := zS_cong (fun l _ => by
    rw [hA l j, ← zS_mul]
    exact zS_cong (fun t _ => by grind))
  rw [e3]
  omega
theorem zgv_2 {A f : Nat → Nat → Int} {n : Nat} (hA : ∀ i j, A i j = zS n (fun t => f t i * f t j)) {k : Nat} (hV : ∀ i j, j < k → zm A k i j = 0) (i j : Nat) : zS n (fun t => zgv A f k i t * zgv A f k j t) = zdet k A * zm A k i j := by
  have e1 : zS n (fun t => zgv A f k i t * zgv A f k j t) = zdet k A * zS n (fun t => zgv A f k i t * f t j) + 1 * zS n (fun t => zS k (fun l => zco A k j l * (zgv A f k i t * f t l))) := by
    rw [← zS_lin]
    refine zS_cong (fun t _ => ?_)
    have e2 : zS k (fun l => zco A k j l * (zgv A f k i t * f t l)) = zgv A f k i t * zS k (fun l => zco A k j l * f t l) := by
      rw [← zS_mul]
      exact zS_cong (fun l _ => by grind)
    rw [e2]
    generalize zgv A f k i t = g
    rw [zgv]
    grind
  rw [e1, zgv_m hA, zS_swap (fun t l => zco A k j l * (zgv A f k i t * f t l)) k n]
  have e3 : zS k (fun l => zS n (fun t => zco A k j l * (zgv A f k i t * f t l))) = 0 := zS_z (fun l hl => by
    rw [zS_mul, zgv_m hA, hV i l hl]
    omega)
  rw [e3]
  omega
theorem zm_sym {A f : Nat → Nat → Int} {n : Nat} (hA : ∀ i j, A i j = zS n (fun t => f t i * f t j)) {k : Nat} (hd : ∀ j, j ≤ k → ¬ zdet j A = 0) (i j : Nat) : zm A k i j = zm A k j i := by
  have hV := zm_Vk k hd
  have h1 := zgv_2 hA hV i j
  have h2 := zgv_2 hA hV j i
  have e : zS n (fun t => zgv A f k i t * zgv A f k j t) = zS n (fun t => zgv A f k j t * zgv A f k i t) := zS_cong (fun t _ => Int.mul_comm _ _)
  refine Int.eq_of_mul_eq_mul_left (hd k (Nat.le_refl _)) ?_
  rw [← h1, ← h2, e]
theorem zsq_nn (a : Int) : 0 ≤ a * a := by
  rcases Int.le_total 0 a with h | h
  · exact Int.mul_nonneg h h
  · have := Int.mul_nonneg (show 0 ≤ -a by omega) (show 0 ≤ -a by omega)
    rw [Int.neg_mul_neg] at this
    exact this
theorem zpos_of {a b : Int} (ha : 0 < a) (h : 0 ≤ a * b) : 0 ≤ b := by
  rcases Int.lt_or_le b 0 with q | q
  · have := Int.mul_neg_of_pos_of_neg ha q
    omega
  · exact q
theorem zm_nn {A f : Nat → Nat → Int} {n : Nat} (hA : ∀ i j, A i j = zS n (fun t => f t i * f t j)) {k : Nat} (hd : ∀ j, j ≤ k → 0 < zdet j A) (i : Nat) : 0 ≤ zm A k i i := by
  have h1 := zgv_2 hA (zm_Vk k (fun j hj => by have := hd j hj; omega)) i i
  have h2 := zS_nn (f := fun t => zgv A f k i t * zgv A f k i t) (fun t => zsq_nn _) n
  rw [h1] at h2
  exact zpos_of (hd k (Nat.le_refl _)) h2
theorem zm_2ab {A f : Nat → Nat → Int} {n : Nat} (hA : ∀ i j, A i j = zS n (fun t => f t i * f t j)) {k : Nat} (hd : ∀ j, j ≤ k → 0 < zdet j A) (i j : Nat) : zab (2 * zm A k i j) (zm A k i i + zm A k j j) := by
  have hV := zm_Vk (A := A) k (fun j hj => by have := hd j hj; omega)
  have h1 := zgv_2 hA hV i i
  have h2 := zgv_2 hA hV i j
  have h3 := zgv_2 hA hV j j
  have key : ∀ s : Int, s * s = 1 → 0 ≤ zm A k i i + 2 * s * zm A k i j + zm A k j j := by
    intro s hs
    have h4 := zS_nn (f := fun t => (zgv A f k i t + s * zgv A f k j t) * (zgv A f k i t + s * zgv A f k j t)) (fun t => zsq_nn _) n
    have e : zS n (fun t => (zgv A f k i t + s * zgv A f k j t) * (zgv A f k i t + s * zgv A f k j t)) = 1 * (1 * zS n (fun t => zgv A f k i t * zgv A f k i t) + 2 * s * zS n (fun t => zgv A f k i t * zgv A f k j t)) + 1 * zS n (fun t => zgv A f k j t * zgv A f k j t) := by
      rw [← zS_lin, ← zS_lin]
      refine zS_cong (fun t _ => ?_)
      generalize zgv A f k i t = g1
      generalize zgv A f k j t = g2
      grind
    rw [e, h1, h2, h3] at h4
    refine zpos_of (hd k (Nat.le_refl _)) ?_
    refine Int.le_trans h4 (Int.le_of_eq ?_)
    grind
  have a := key 1 rfl
  have b := key (-1) rfl
  unfold zab
  constructor <;> omega
theorem zm_le {A f : Nat → Nat → Int} {n : Nat} (hA : ∀ i j, A i j = zS n (fun t => f t i * f t j)) : ∀ {k : Nat}, (∀ j, j ≤ k → 0 < zdet j A) → ∀ i, zm A k i i ≤ zdet k A * A i i
  | 0, _, i => by
    rw [zm_0]
    show A i i ≤ 1 * A i i
    omega
  | k + 1, hd, i => by
    have ih := zm_le hA (k := k) (fun j hj => hd j (by omega)) i
    have hr := zm_rec (A := A) (k := k) (fun j hj => by have := hd j hj; omega) i i
    have hs := zm_sym hA (k := k) (fun j hj => by have := hd j (by omega); omega) i k
    rw [hs] at hr
    have h1 := zsq_nn (zm A k k i)
    have hE := hd (k + 1) (Nat.le_refl _)
    have hD := hd k (by omega)
    have h2 : zdet (k + 1) A * zm A k i i ≤ zdet (k + 1) A * (zdet k A * A i i) := Int.mul_le_mul_of_nonneg_left ih (by omega)
    have h3 : zdet k A * zm A (k + 1) i i ≤ zdet k A * (zdet (k + 1) A * A i i) := by
      have e : zdet (k + 1) A * (zdet k A * A i i) = zdet k A * (zdet (k + 1) A * A i i) := by grind
      omega
    exact Int.le_of_mul_le_mul_left h3 hD
/-- a table of sums of products: its leading determinants are not less than 0, and one that is 0 makes all behind it 0 -/
theorem zgr_z {A f : Nat → Nat → Int} {n : Nat} (hA : ∀ i j, A i j = zS n (fun t => f t i * f t j)) {k u : Nat} (hk : k < u) (hd : ∀ j, j ≤ k → 0 < zdet j A) (h0 : zdet (k + 1) A = 0) : zdet u A = 0 := by
  have hV := zm_Vk (A := A) k (fun j hj => by have := hd j hj; omega)
  have h1 := zgv_2 hA hV k k
  rw [zm_D, h0, Int.mul_zero] at h1
  have h2 : ∀ t, t < n → zgv A f k k t = 0 := fun t ht => by
    have := zS_nz (f := fun t => zgv A f k k t * zgv A f k k t) (fun t => zsq_nn _) h1 t ht
    rcases Int.mul_eq_zero.mp this with z | z <;> exact z
  have h3 : ∀ j, zm A k k j = 0 := fun j => by
    rw [← zgv_m hA]
    exact zS_z (fun t ht => by rw [h2 t ht]; omega)
  have h4 := zdet_comb (n := u) A (r := k) hk (fun l => if l < k then zco A k k l else if l = k then zdet k A else 0)
  rw [if_neg (Nat.lt_irrefl k), if_pos rfl] at h4
  rw [zdet_zr (r := k) _ hk (fun q hq => ?_)] at h4
  · rcases Int.mul_eq_zero.mp (Eq.symm h4) with z | z
    · have := hd k (Nat.le_refl _)
      omega
    · exact z
  · rw [zrw_r]
    refine Eq.trans ?_ (h3 q)
    rw [zm_lin]
    have e1 : ∀ m, zS (k + 1 + m) (fun l => (if l < k then zco A k k l else if l = k then zdet k A else 0) * A l q) = zdet k A * A k q + zS k (fun l => zco A k k l * A l q) := by
      intro m
      induction m with
      | zero =>
        rw [Nat.add_zero, zS, if_neg (Nat.lt_irrefl k), if_pos rfl, zS_cong (g := fun l => zco A k k l * A l q) (fun l hl => by rw [if_pos hl])]
        omega
      | succ m ih =>
        rw [← Nat.add_assoc, zS, ih, if_neg (by omega), if_neg (by omega)]
        omega
    have e2 := e1 (u - (k + 1))
    rw [show k + 1 + (u - (k + 1)) = u by omega] at e2
    exact e2
theorem zgr_nn {A f : Nat → Nat → Int} {n : Nat} (hA : ∀ i j, A i j = zS n (fun t => f t i * f t j)) : ∀ u, (∀ j, j ≤ u → 0 < zdet j A) ∨ (zdet u A = 0 ∧ ∃ k, k < u ∧ (∀ j, j ≤ k → 0 < zdet j A) ∧ zdet (k + 1) A = 0)
  | 0 => Or.inl (fun j hj => by rw [show j = 0 by omega]; exact (by decide : (0 : Int) < 1))
  | u + 1 => by
    rcases zgr_nn hA u with h | ⟨h1, k, hk, hk2, hk3⟩
    · have h2 := zm_nn hA h u
      rw [zm_D] at h2
      by_cases e : zdet (u + 1) A = 0
      · exact Or.inr ⟨e, u, Nat.lt_succ_self u, h, e⟩
      · refine Or.inl (fun j hj => ?_)
        by_cases e2 : j = u + 1
        · subst e2; omega
        · exact h j (by omega)
    · exact Or.inr ⟨zgr_z hA (Nat.lt_succ_of_lt hk) hk2 hk3, k, by omega, hk2, hk3⟩
