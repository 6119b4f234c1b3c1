/-! elimination with rows exchanged -/
theorem zS_ext {F : Nat → Int} {p : Nat} : ∀ (m : Nat), (∀ l, p ≤ l → l < p + m → F l = 0) → zS (p + m) F = zS p F
  | 0, _ => rfl
  | m + 1, h => by
    rw [← Nat.add_assoc, zS, zS_ext m (fun l h1 h2 => h l h1 (by omega)), h (p + m) (by omega) (by omega)]
    omega
theorem zS_ps {f h : Nat → Int} {g : Int} {p s n : Nat} (h1 : p ≤ s) (h2 : s < n) : zS n (fun l => (if l < p then f l else if l = s then g else 0) * h l) = g * h s + zS p (fun l => f l * h l) := by
  have e1 : zS n (fun l => (if l < p then f l else if l = s then g else 0) * h l) = zS n (fun l => (if l < p then f l * h l else 0) + (if l = s then g * h s else 0)) := zS_cong (fun l hl => by
    by_cases a : l < p
    · rw [if_pos a, if_pos a, if_neg (by omega)]
      omega
    · rw [if_neg a, if_neg a]
      by_cases b : l = s
      · rw [if_pos b, if_pos b, b]
        omega
      · rw [if_neg b, if_neg b]
        omega)
  rw [e1, zS_add, zS_one (f := fun l => if l = s then g * h s else 0) h2 (fun k _ hk => if_neg hk), if_pos rfl]
  have e2 := zS_ext (F := fun l => if l < p then f l * h l else 0) (p := p) (n - p) (fun l a _ => if_neg (by omega))
  rw [show p + (n - p) = n by omega] at e2
  rw [e2, zS_cong (g := fun l => f l * h l) (fun l hl => if_pos hl)]
  omega
theorem zdet_blk : ∀ (n p : Nat) (A : Nat → Nat → Int), p < n → (∀ i q, p ≤ i → i < n → q ≤ p → A i q = 0) → zdet n A = 0
  | n + 1, p, A, hp, h => by
    by_cases e : p = n
    · exact zdet_zr (r := n) A (Nat.lt_succ_self n) (fun q hq => h n q (by omega) (by omega) (by omega))
    · rw [zdet_s]
      refine zS_z (fun i hi => ?_)
      have e2 : zdet n (fun a q => A (zskp i a) q) = 0 := by
        by_cases q : i < p
        · refine zdet_blk n (p - 1) _ (by omega) (fun a b h1 h2 h3 => ?_)
          exact h _ b (by unfold zskp; split <;> omega) (by unfold zskp; split <;> omega) (by omega)
        · refine zdet_blk n p _ (by omega) (fun a b h1 h2 h3 => ?_)
          exact h _ b (by unfold zskp; split <;> omega) (by unfold zskp; split <;> omega) h3
      rw [e2]
      omega
def zcs (B : Nat → Nat → Int) (p s : Nat) : Nat → Nat → Int := fun i q => if p ≤ i ∧ i < s then zm B p i q else B i q
theorem zcs_s {B : Nat → Nat → Int} {p s n : Nat} (h1 : p ≤ s) (h2 : s < n) : zdet n (zcs B p (s + 1)) = zdet p B * zdet n (zcs B p s) := by
  have h := zdet_comb (n := n) (zcs B p s) (r := s) h2 (fun l => if l < p then zco B p s l else if l = s then zdet p B else 0)
  rw [if_neg (by omega), if_pos rfl] at h
  rw [← h]
  refine zdet_cg (fun i q hi hq => ?_)
  by_cases e : i = s
  · rw [e, zrw_r, zS_ps h1 h2]
    have a1 : zcs B p (s + 1) s q = zm B p s q := if_pos ⟨h1, Nat.lt_succ_self s⟩
    have a2 : zcs B p s s q = B s q := if_neg (by omega)
    have a3 : zS p (fun l => zco B p s l * zcs B p s l q) = zS p (fun l => zco B p s l * B l q) := zS_cong (fun l hl => by rw [show zcs B p s l q = B l q from if_neg (by omega)])
    rw [a1, a2, a3, zm_lin]
  · rw [zrw_n _ _ _ e]
    unfold zcs
    by_cases a : p ≤ i ∧ i < s
    · rw [if_pos a, if_pos (by omega)]
    · rw [if_neg a, if_neg (by omega)]
theorem zcs_m {B : Nat → Nat → Int} {p n : Nat} : ∀ m, p + m ≤ n → zdet n (zcs B p (p + m)) = zdet p B ^ m * zdet n B
  | 0, _ => by
    rw [Int.pow_zero, Int.one_mul]
    exact zdet_cg (fun i q _ _ => if_neg (by omega))
  | m + 1, h => by
    rw [← Nat.add_assoc, zcs_s (by omega) (by omega), zcs_m m (by omega), Int.pow_succ]
    generalize zdet p B = x1
    generalize zdet n B = x2
    generalize x1 ^ m = x3
    grind
theorem zpow_nz {z : Int} (h : ¬ z = 0) : ∀ m : Nat, ¬ z ^ m = 0
  | 0 => by rw [Int.pow_zero]; decide
  | m + 1 => by
    rw [Int.pow_succ]
    intro e
    rcases Int.mul_eq_zero.mp e with q | q
    · exact zpow_nz h m q
    · exact h q
theorem zdet_col0 {B : Nat → Nat → Int} {n p : Nat} (hp : p < n) (hd : ∀ j, j ≤ p → ¬ zdet j B = 0) (h0 : ∀ i, p ≤ i → i < n → zm B p i p = 0) : zdet n B = 0 := by
  have h := zcs_m (B := B) (p := p) (n := n) (n - p) (by omega)
  rw [show p + (n - p) = n by omega, zdet_blk n p _ hp (fun i q h1 h2 h3 => ?_)] at h
  · rcases Int.mul_eq_zero.mp (Eq.symm h) with z | z
    · exact absurd z (zpow_nz (hd p (Nat.le_refl _)) _)
    · exact z
  · rw [show zcs B p n i q = zm B p i q from if_pos ⟨h1, h2⟩]
    by_cases e : q = p
    · rw [e]; exact h0 i h1 h2
    · exact zm_Vk p hd i q (by omega)
def zpm (A : Nat → Nat → Int) (ρ : Nat → Nat) : Nat → Nat → Int := fun p q => A (ρ p) q
def zinj (n : Nat) (ρ : Nat → Nat) : Prop := (∀ p, p < n → ρ p < n) ∧ ∀ p q, p < n → q < n → ρ p = ρ q → p = q
def zsp2 (a b p : Nat) : Nat := if p = a then b else if p = b then a else p
theorem zinj_sw {n a b : Nat} {ρ : Nat → Nat} (h : zinj n ρ) (ha : a < n) (hb : b < n) : zinj n (fun p => ρ (zsp2 a b p)) := by
  refine ⟨fun p hp => h.1 _ (by unfold zsp2; split; exact hb; split <;> assumption), fun p q hp hq e => ?_⟩
  have := h.2 _ _ (by unfold zsp2; split; exact hb; split <;> assumption) (by unfold zsp2; split; exact hb; split <;> assumption) e
  unfold zsp2 at this
  (repeat' split at this) <;> omega
theorem zdet_sw {n a b : Nat} (A : Nat → Nat → Int) (ρ : Nat → Nat) (ha : a < n) (hb : b < n) (hab : ¬ a = b) : zdet n (zpm A (fun p => ρ (zsp2 a b p))) = -zdet n (zpm A ρ) := by
  have h := zdet_swap (zpm A ρ) ha hb hab (zpm A ρ b) (zpm A ρ a)
  have e1 : zdet n (zrw (zrw (zpm A ρ) a (zpm A ρ b)) b (zpm A ρ a)) = zdet n (zpm A (fun p => ρ (zsp2 a b p))) := zdet_cg (fun p q _ _ => by
    unfold zrw zpm zsp2
    dsimp only
    by_cases e : p = b
    · rw [if_pos e, e, if_neg (fun z => hab (Eq.symm z)), if_pos rfl]
    · rw [if_neg e]
      by_cases e2 : p = a
      · rw [if_pos e2, if_pos e2]
      · rw [if_neg e2, if_neg e2, if_neg e])
  have e2 : zdet n (zrw (zrw (zpm A ρ) a (zpm A ρ a)) b (zpm A ρ b)) = zdet n (zpm A ρ) := zdet_cg (fun p q _ _ => by
    unfold zrw
    by_cases e : p = b
    · rw [if_pos e, e]
    · rw [if_neg e]
      by_cases e2 : p = a
      · rw [if_pos e2, e2]
      · rw [if_neg e2])
  rw [← e1, h, e2]
theorem zm_sw {A : Nat → Nat → Int} {ρ : Nat → Nat} {p a b i j : Nat} (ha : p ≤ a) (hb : p ≤ b) (hi : p ≤ i) : zm (zpm A (fun t => ρ (zsp2 a b t))) p i j = zm (zpm A ρ) p (zsp2 a b i) j := zdet_cg (fun t q _ _ => by
  unfold zbrd zpm
  dsimp only
  by_cases e : t < p
  · rw [if_pos e, if_pos e, show zsp2 a b t = t by unfold zsp2; rw [if_neg (by omega), if_neg (by omega)]]
  · rw [if_neg e, if_neg e])
theorem zdet_sw0 {A : Nat → Nat → Int} {ρ : Nat → Nat} {p a b k : Nat} (ha : p ≤ a) (hb : p ≤ b) (hk : k ≤ p) : zdet k (zpm A (fun t => ρ (zsp2 a b t))) = zdet k (zpm A ρ) := zdet_cg (fun t q ht _ => by
  unfold zpm
  dsimp only
  rw [show zsp2 a b t = t by unfold zsp2; rw [if_neg (by omega), if_neg (by omega)]])
/-- no number that comes up is too large -/
def zBn (n : Nat) (A : Nat → Nat → Int) : Prop := ∀ ρ, zinj n ρ → ∀ k i j, k ≤ i → i < n → k ≤ j → j < n → zrg (zm (zpm A ρ) k i j) ∧ zrg (zdet k (zpm A ρ)) ∧ (k + 1 ≤ i → k + 1 ≤ j → zrg (zm (zpm A ρ) (k + 1) i j * zdet k (zpm A ρ)))
def zjm (J : Nat) : Int32 := nI J - 1
theorem zjm_s (j : Nat) : zjm (j + 1) = nI j := nI_pred j
theorem zjm_d (j : Nat) : nI j + (-1) = zjm j := by unfold zjm; rw [Int32.sub_eq_add_neg]
theorem zjm_lt : ∀ J, J < 6 → ∀ p, p < 6 → J ≤ p → zjm J < nI p := by decide +kernel
theorem zprd_one {f : Nat → Nat} {lo hi : Nat} : ∀ {m : Nat}, (∀ q, q < m → f q = lo ∨ f q = hi) → (∀ p q, p < m → q < m → f p = hi → f q = hi → p = q) → lo ≤ hi → lo * zprd m f ≤ hi * lo ^ m
  | 0, _, _, h => by
    show lo * 1 ≤ hi * 1
    omega
  | m + 1, h1, h2, h => by
    rw [zprd, Nat.pow_succ, ← Nat.mul_assoc, ← Nat.mul_assoc]
    by_cases e : f m = lo
    · rw [e]
      exact Nat.mul_le_mul_right lo (zprd_one (fun q hq => h1 q (by omega)) (fun p q hp hq => h2 p q (by omega) (by omega)) h)
    · have e1 : f m = hi := (h1 m (Nat.lt_succ_self m)).resolve_left e
      have e2 : ∀ k, k ≤ m → zprd k f = lo ^ k := by
        intro k
        induction k with
        | zero => intro _; rfl
        | succ k ih =>
          intro hk
          rw [zprd, ih (by omega), Nat.pow_succ]
          congr 1
          refine (h1 k (by omega)).resolve_right (fun z => ?_)
          have := h2 k m (by omega) (Nat.lt_succ_self m) z e1
          omega
      rw [e2 m (Nat.le_refl _), e1, Nat.mul_comm lo, Nat.mul_assoc, Nat.mul_comm lo hi, ← Nat.mul_assoc, Nat.mul_comm (lo ^ m) hi]
      exact Nat.le_refl _
theorem zprd_mul (f g : Nat → Nat) : ∀ m, zprd m (fun q => f q * g q) = zprd m f * zprd m g
  | 0 => rfl
  | m + 1 => by
    rw [zprd, zprd, zprd, zprd_mul f g m]
    generalize zprd m f = x1
    generalize zprd m g = x2
    grind
theorem zprd_const {f : Nat → Nat} {c : Nat} : ∀ {m : Nat}, (∀ q, q < m → f q = c) → zprd m f = c ^ m
  | 0, _ => rfl
  | m + 1, h => by rw [zprd, zprd_const (fun q hq => h q (by omega)), h m (Nat.lt_succ_self m), Nat.pow_succ]
theorem znum_8 : ∀ m, m < 6 → zfac m * (9 * 2 ^ m) * (17 * 4 ^ m * 1099) ≤ 8 * 90000000000 := by decide +kernel
theorem znum_9 : ∀ m, m < 4 → zfac m * (9 * 2 ^ m) * (4 ^ m * 1099) ≤ 2 * 20000000 := by decide +kernel
