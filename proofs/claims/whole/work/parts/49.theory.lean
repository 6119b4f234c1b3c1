/-! bounds; the theory of the swept table -/
def zprd : Nat → (Nat → Nat) → Nat
  | 0, _ => 1
  | n + 1, a => zprd n a * a n
theorem zprd_cg {a b : Nat → Nat} : ∀ {n : Nat}, (∀ k, k < n → a k = b k) → zprd n a = zprd n b
  | 0, _ => rfl
  | n + 1, h => by rw [zprd, zprd, zprd_cg (fun k hk => h k (Nat.lt_succ_of_lt hk)), h n (Nat.lt_succ_self n)]
theorem zprd_skp (a : Nat → Nat) : ∀ (n i : Nat), i < n + 1 → a i * zprd n (fun p => a (zskp i p)) = zprd (n + 1) a
  | 0, i, h => by
    rw [show i = 0 by omega]
    show a 0 * 1 = 1 * a 0
    omega
  | n + 1, i, h => by
    by_cases e : i = n + 1
    · subst e
      rw [zprd_cg (a := fun p => a (zskp (n + 1) p)) (b := a) (fun k hk => by rw [zskp_l hk]), Nat.mul_comm]
      rfl
    · rw [zprd, ← Nat.mul_assoc, zprd_skp a n i (by omega), show zskp i n = n + 1 by unfold zskp; split <;> omega]
      rfl
theorem zab_n1 (z b : Int) (n i : Nat) (h : zab z b) : zab (zsg n i * z) b := by
  unfold zab at *
  unfold zsg
  split <;> omega
theorem zdet_ab : ∀ (n : Nat) (A : Nat → Nat → Int) (a b : Nat → Nat), (∀ p q, p < n → q < n → zab (A p q) ((a p * b q : Nat) : Int)) → zab (zdet n A) ((zfac n * zprd n a * zprd n b : Nat) : Int)
  | 0, _, _, _, _ => ⟨show (-1 : Int) ≤ 1 by decide, show (1 : Int) ≤ 1 by decide⟩
  | n + 1, A, a, b, h => by
    rw [zdet_s]
    have h1 := zS_ab (b := ((zfac n * zprd (n + 1) a * zprd (n + 1) b : Nat) : Int)) (Int.natCast_nonneg _) (n := n + 1) (f := fun i => zsg n i * A i n * zdet n (fun p q => A (zskp i p) q)) (fun i hi => ?_)
    · have e : ((n + 1 : Nat) : Int) * ((zfac n * zprd (n + 1) a * zprd (n + 1) b : Nat) : Int) = ((zfac (n + 1) * zprd (n + 1) a * zprd (n + 1) b : Nat) : Int) := by
        rw [← Int.natCast_mul, zfac]
        congr 1
        rw [← Nat.mul_assoc, ← Nat.mul_assoc]
      rw [e] at h1
      exact h1
    · have h2 := zdet_ab n (fun p q => A (zskp i p) q) (fun p => a (zskp i p)) b (fun p q hp hq => h _ _ (zskp_lt hp) (by omega))
      have h3 := zab_mul2 (Int.natCast_nonneg _) (Int.natCast_nonneg _) (zab_n1 _ _ n i (h i n hi (Nat.lt_succ_self n))) h2
      have e : ((a i * b n : Nat) : Int) * ((zfac n * zprd n (fun p => a (zskp i p)) * zprd n b : Nat) : Int) = ((zfac n * zprd (n + 1) a * zprd (n + 1) b : Nat) : Int) := by
        rw [← Int.natCast_mul, ← zprd_skp a n i hi]
        congr 1
        show a i * b n * (zfac n * zprd n (fun p => a (zskp i p)) * zprd n b) = zfac n * (a i * zprd n (fun p => a (zskp i p))) * (zprd n b * b n)
        grind
      rw [e] at h3
      exact h3
theorem zS_abf {f c : Nat → Int} : ∀ {n : Nat}, (∀ t, t < n → zab (f t) (c t)) → zab (zS n f) (zS n c)
  | 0, _ => ⟨show (-0 : Int) ≤ 0 by decide, show (0 : Int) ≤ 0 by decide⟩
  | n + 1, h => by
    have h1 := zS_abf (fun t ht => h t (Nat.lt_succ_of_lt ht))
    have h2 := h n (Nat.lt_succ_self n)
    rw [zS, zS]
    unfold zab at *
    omega
theorem zdet_had {A f : Nat → Nat → Int} {n : Nat} (hA : ∀ i j, A i j = zS n (fun t => f t i * f t j)) {c : Nat → Nat} : ∀ {k : Nat}, (∀ j, j ≤ k → 0 < zdet j A) → (∀ p, p < k → A p p ≤ (c p : Int)) → zdet k A ≤ (zprd k c : Int)
  | 0, _, _ => show (1 : Int) ≤ 1 by decide
  | k + 1, hd, hc => by
    have ih := zdet_had hA (k := k) (fun j hj => hd j (by omega)) (fun p hp => hc p (by omega))
    have h1 := zm_le hA (k := k) (fun j hj => hd j (by omega)) k
    rw [zm_D] at h1
    have h2 : zdet k A * A k k ≤ zdet k A * (c k : Int) := Int.mul_le_mul_of_nonneg_left (hc k (by omega)) (by have := hd k (by omega); omega)
    have h3 : zdet k A * (c k : Int) ≤ (zprd k c : Int) * (c k : Int) := Int.mul_le_mul_of_nonneg_right ih (Int.natCast_nonneg _)
    rw [zprd, Int.natCast_mul]
    omega
/-- what a weighing lays out is at most this -/
def zhh (w : Nat) (d : Bool) (t p : Nat) : Int := if p < w then 1 else if d = true ∧ p = w then t else 1099
def zaa (w p : Nat) : Nat := if p < w then 2 else 9
def zbq (w : Nat) (d : Bool) (q : Nat) : Nat := if q < w then 4 else if q < zunk w d then 17 else 4396
def zcc (w : Nat) (d : Bool) (p : Nat) : Nat := if p < w then 8 else if p < zunk w d then 140 else 9662408
theorem znum_1 : ∀ w, w < 5 → ∀ d : Bool, ∀ n, n < 9 → ∀ p, p < zunk w d → ∀ q, q < zunk w d + 1 → zS n (fun t => zhh w d t p * zhh w d t q) ≤ ((zaa w p * zbq w d q : Nat) : Int) := by decide +kernel
theorem znum_2 : ∀ w, w < 5 → ∀ d : Bool, ∀ n, n < 9 → ∀ p, p < 6 → p ≤ zunk w d → zS n (fun t => zhh w d t p * zhh w d t p) ≤ ((zcc w d p : Nat) : Int) := by decide +kernel
theorem znum_3 : ∀ w, w < 5 → ∀ d : Bool, ∀ k, k < 6 → k ≤ zunk w d → zprd k (zcc w d) ≤ 573440 := by decide +kernel
theorem znum_4 : ∀ w, w < 5 → ∀ d : Bool, ∀ k, k < 6 → k ≤ zunk w d → zfac k * zprd k (zaa w) * zprd k (zbq w d) ≤ 1000000000000 := by decide +kernel
theorem znum_5 : ∀ w, w < 5 → ∀ d : Bool, ∀ k, k < zunk w d + 1 → ∀ i, i < 5 → ∀ j, j < zunk w d + 1 → zfac k * zprd k (zaa w) * zprd k (fun q => if q = i then zbq w d j else zbq w d q) ≤ 1000000000000 := by decide +kernel
theorem znum_6 : ∀ w, w < 5 → ∀ d : Bool, ∀ i, i < 5 → i < zunk w d → zprd (zunk w d - 1) (fun p => zcc w d (zskp i p)) ≤ 1000000 := by decide +kernel
theorem znum_7 : ∀ w, w < 5 → ∀ d : Bool, ∀ k, k < 5 → k < zunk w d → zprd k (zcc w d) ≤ 4096 := by decide +kernel
theorem zaa_1 (w p : Nat) : 1 ≤ zaa w p := by unfold zaa; split <;> omega
theorem zbq_1 (w : Nat) (d : Bool) (q : Nat) : 1 ≤ zbq w d q := by unfold zbq; split; omega; split <;> omega
def zff (r : zRo) (d : Bool) (S : Nat → Bool) (t p : Nat) : Int := if S t then zLn r.1 r.2.2.1 d (r.2.2.2.1 t) (r.2.2.2.2 t) t p else 0
theorem zGm_f (r : zRo) (d : Bool) (S : Nat → Bool) (i j : Nat) : zGm r d S i j = zS r.2.1 (fun t => zff r d S t i * zff r d S t j) := zS_cong (fun t _ => by
  unfold zff
  by_cases e : S t = true
  · rw [if_pos e, if_pos e, if_pos e]
  · rw [if_neg e, if_neg e, if_neg e]
    rfl)
theorem zGm_s (r : zRo) (d : Bool) (S : Nat → Bool) (i j : Nat) : zGm r d S i j = zGm r d S j i := by
  rw [zGm_f, zGm_f]
  exact zS_cong (fun t _ => Int.mul_comm _ _)
theorem zsgd_ab {q : Nat} (h : q ≤ 2) : zab (zsgd q) 1 := by
  rcases (show q = 0 ∨ q = 1 ∨ q = 2 by omega) with rfl | rfl | rfl <;> exact ⟨by decide, by decide⟩
theorem zff_ab {r : zRo} (hv : zVr r) (d : Bool) (S : Nat → Bool) {t p : Nat} (ht : t < r.2.1) (hp : p ≤ zunk r.1 d) : zab (zff r d S t p) (zhh r.1 d t p) := by
  have hc := hv.2.2.2 t ht
  unfold zff
  by_cases e : S t = true
  · rw [if_pos e]
    by_cases h1 : p < r.1
    · unfold zLn zhh
      rw [if_pos h1, if_pos h1]
      exact zsgd_ab (hc.1.2 _ (by omega))
    · by_cases h2 : d = true ∧ p = r.1
      · unfold zLn zhh
        rw [if_neg h1, if_neg h1, if_pos h2, if_pos h2]
        unfold zab
        omega
      · have e2 : p = zunk r.1 d := by
          unfold zunk at *
          cases d
          · simp at hp ⊢
            omega
          · simp at hp h2 ⊢
            omega
        have e3 : zhh r.1 d t p = 1099 := by unfold zhh; rw [if_neg h1, if_neg h2]
        rw [e3, e2]
        exact zLn_y hc.1 hc.2.1 hc.2.2 hv.2.1
  · rw [if_neg e]
    have : 0 ≤ zhh r.1 d t p := by unfold zhh; split; decide; split; exact Int.natCast_nonneg _; decide
    unfold zab
    omega
theorem zhh_0 (w : Nat) (d : Bool) (t p : Nat) : 0 ≤ zhh w d t p := by unfold zhh; split; decide; split; exact Int.natCast_nonneg _; decide
theorem zGm_ab {r : zRo} (hv : zVr r) (d : Bool) (S : Nat → Bool) {p q : Nat} (hp : p ≤ zunk r.1 d) (hq : q ≤ zunk r.1 d) : zab (zGm r d S p q) (zS r.2.1 (fun t => zhh r.1 d t p * zhh r.1 d t q)) := by
  rw [zGm_f]
  exact zS_abf (fun t ht => zab_mul2 (zhh_0 _ _ _ _) (zhh_0 _ _ _ _) (zff_ab hv d S ht hp) (zff_ab hv d S ht hq))
theorem zGm_e {r : zRo} (hv : zVr r) (d : Bool) (S : Nat → Bool) {p q : Nat} (hp : p < zunk r.1 d) (hq : q ≤ zunk r.1 d) : zab (zGm r d S p q) ((zaa r.1 p * zbq r.1 d q : Nat) : Int) := by
  have hu := zunk_le hv.1.2 d
  have h1 := zGm_ab hv d S (p := p) (q := q) (by omega) hq
  have h2 := znum_1 r.1 (by have := hv.1.2; omega) d r.2.1 (by have := hv.2.2.1; omega) p hp q (by omega)
  unfold zab at *
  omega
theorem zGm_c {r : zRo} (hv : zVr r) (d : Bool) (S : Nat → Bool) {p : Nat} (hp : p ≤ zunk r.1 d) : zGm r d S p p ≤ ((zcc r.1 d p : Nat) : Int) := by
  have hu := zunk_le hv.1.2 d
  have h1 := zGm_ab hv d S (p := p) (q := p) hp hp
  have h2 := znum_2 r.1 (by have := hv.1.2; omega) d r.2.1 (by have := hv.2.2.1; omega) p (by omega) hp
  unfold zab at *
  omega
theorem zGm_D {r : zRo} (hv : zVr r) (d : Bool) (S : Nat → Bool) {k : Nat} (hk : k ≤ zunk r.1 d) (hd : ∀ j, j ≤ k → 0 < zdet j (zGm r d S)) : zdet k (zGm r d S) ≤ (zprd k (zcc r.1 d) : Int) := zdet_had (zGm_f r d S) hd (fun p hp => zGm_c hv d S (by omega))
theorem zGm_uf {r : zRo} (hv : zVr r) (d : Bool) (S : Nat → Bool) {k i l : Nat} (hk : k ≤ zunk r.1 d) : zab (zuf (zGm r d S) k i l) 1000000000000 := by
  have hu := zunk_le hv.1.2 d
  have h := zdet_ab k (zrw (zGm r d S) l (zunt i)) (zaa r.1) (zbq r.1 d) (fun p q hp hq => by
    by_cases e : p = l
    · rw [e, zrw_r]
      have h1 := Nat.mul_le_mul (zaa_1 r.1 l) (zbq_1 r.1 d q)
      unfold zunt zab
      split <;> omega
    · rw [zrw_n _ _ _ e]
      exact zGm_e hv d S (by omega) (by omega))
  have h2 := znum_4 r.1 (by have := hv.1.2; omega) d k (by omega) hk
  unfold zab at *
  rw [zuf]
  omega
theorem zGm_vl {r : zRo} (hv : zVr r) (d : Bool) (S : Nat → Bool) {k i j : Nat} (hk : k ≤ zunk r.1 d) (hi : i < k) (hj : j ≤ zunk r.1 d) : zab (zVl (zGm r d S) k i j) 1000000000000 := by
  have hu := zunk_le hv.1.2 d
  have h := zdet_ab k (fun p q => if q = i then zGm r d S p j else zGm r d S p q) (zaa r.1) (fun q => if q = i then zbq r.1 d j else zbq r.1 d q) (fun p q hp hq => by
    by_cases e : q = i
    · rw [if_pos e, if_pos e]
      exact zGm_e hv d S (by omega) hj
    · rw [if_neg e, if_neg e]
      exact zGm_e hv d S (by omega) (by omega))
  have h2 := znum_5 r.1 (by have := hv.1.2; omega) d k (by omega) i (by omega) j (by omega)
  unfold zab at *
  rw [zVl]
  omega
theorem zGm_m {r : zRo} (hv : zVr r) (d : Bool) (S : Nat → Bool) {k i j : Nat} (hk : k ≤ zunk r.1 d) (hd : ∀ j, j ≤ k → 0 < zdet j (zGm r d S)) (hi : i ≤ zunk r.1 d) (hj : j ≤ zunk r.1 d) : zab (zm (zGm r d S) k i j) 6000000000000 := by
  have hu := zunk_le hv.1.2 d
  have hD := zGm_D hv d S hk hd
  have hn := znum_3 r.1 (by have := hv.1.2; omega) d k (by omega) hk
  have key : ∀ p, p ≤ zunk r.1 d → zm (zGm r d S) k p p ≤ 573440 * 9662408 := fun p hp => by
    have h1 := zm_le (zGm_f r d S) hd p
    have h2 := zGm_c hv d S hp
    have h3 : ((zcc r.1 d p : Nat) : Int) ≤ 9662408 := by unfold zcc; split; decide; split <;> decide
    have h4 : 0 ≤ zdet k (zGm r d S) := by have := hd k (Nat.le_refl _); omega
    have h5 : zdet k (zGm r d S) * zGm r d S p p ≤ zdet k (zGm r d S) * 9662408 := Int.mul_le_mul_of_nonneg_left (by omega) h4
    omega
  have h6 := zm_2ab (zGm_f r d S) hd i j
  have h7 := key i hi
  have h8 := key j hj
  unfold zab at *
  omega
theorem zGm_min {r : zRo} (hv : zVr r) (d : Bool) (S : Nat → Bool) {i : Nat} (hi : i < zunk r.1 d) : zab (zMin (zGm r d S) (zunk r.1 d) i) 1000000 := by
  have hu := zunk_le hv.1.2 d
  have hA : ∀ p q, zGm r d S (zskp i p) (zskp i q) = zS r.2.1 (fun t => zff r d S t (zskp i p) * zff r d S t (zskp i q)) := fun p q => zGm_f r d S _ _
  have hn := znum_6 r.1 (by have := hv.1.2; omega) d i (by omega) hi
  rw [zMin]
  rcases zgr_nn (A := fun p q => zGm r d S (zskp i p) (zskp i q)) (f := fun t p => zff r d S t (zskp i p)) hA (zunk r.1 d - 1) with h | ⟨h, -⟩
  · have h1 := zdet_had (A := fun p q => zGm r d S (zskp i p) (zskp i q)) (f := fun t p => zff r d S t (zskp i p)) hA (c := fun p => zcc r.1 d (zskp i p)) h (fun p hp => zGm_c hv d S (by have := zskp_lt (i := i) hp; omega))
    have h2 := h _ (Nat.le_refl _)
    unfold zab
    omega
  · rw [h]
    exact ⟨by decide, by decide⟩
def zT (A : Nat → Nat → Int) (k i j : Nat) : Int := if j < k then -zuf A k i j else if i < k then zVl A k i j else zm A k i j
def zTs (A : Nat → Nat → Int) (k i j : Nat) : Int := if i ≤ j then zT A k i j else zT A k j i
theorem zTs_s (A : Nat → Nat → Int) (k i j : Nat) : zTs A k i j = zTs A k j i := by
  unfold zTs
  rcases Nat.lt_trichotomy i j with h | h | h
  · rw [if_pos (by omega), if_neg (by omega)]
  · subst h; rfl
  · rw [if_neg (by omega), if_pos (by omega)]
theorem zTs_le (A : Nat → Nat → Int) {k i j : Nat} (h : i ≤ j) : zTs A k i j = zT A k i j := if_pos h
theorem zT_uf (A : Nat → Nat → Int) {k i j : Nat} (h : j < k) : zT A k i j = -zuf A k i j := if_pos h
theorem zT_vl (A : Nat → Nat → Int) {k i j : Nat} (h : ¬ j < k) (h2 : i < k) : zT A k i j = zVl A k i j := (if_neg h).trans (if_pos h2)
theorem zT_m (A : Nat → Nat → Int) {k i j : Nat} (h : ¬ j < k) (h2 : ¬ i < k) : zT A k i j = zm A k i j := (if_neg h).trans (if_neg h2)
/-- the steps of the sweep -/
theorem zTs_step {A f : Nat → Nat → Int} {n k : Nat} (hA : ∀ i j, A i j = zS n (fun t => f t i * f t j)) (hd : ∀ j, j ≤ k + 1 → 0 < zdet j A) : ∀ i j, i ≤ j → ¬ i = k → ¬ j = k → zTs A (k + 1) i j * zdet k A = zTs A k i j * zdet (k + 1) A - zTs A k i k * zTs A k j k := by
  intro i j hij hi hj
  have hs : ∀ p q, A p q = A q p := fun p q => by rw [hA, hA]; exact zS_cong (fun t _ => Int.mul_comm _ _)
  have hn : ∀ j, j ≤ k + 1 → ¬ zdet j A = 0 := fun j h => by have := hd j h; omega
  have hn0 : ∀ j, j ≤ k → ¬ zdet j A = 0 := fun j h => hn j (by omega)
  have hP := zP_all hn0
  rw [zTs_le A hij, zTs_le A hij]
  by_cases h1 : j < k
  · rw [zTs_le A (show i ≤ k by omega), zTs_le A (show j ≤ k by omega), zT_uf A (by omega), zT_uf A h1, zT_vl A (Nat.lt_irrefl k) (by omega), zT_vl A (Nat.lt_irrefl k) h1]
    have h := zP_u hn hP (i := i) (by omega) (l := j) (by omega)
    rw [if_pos h1, zco_v hs hn0 h1] at h
    grind
  · by_cases h2 : i < k
    · rw [zTs_le A (show i ≤ k by omega), zTs_s A k j k, zTs_le A (show k ≤ j by omega), zT_vl A (by omega) (by omega), zT_vl A h1 h2, zT_vl A (Nat.lt_irrefl k) h2, zT_m A h1 (Nat.lt_irrefl k)]
      have h := zP_v hn hP h2 j
      grind
    · rw [zTs_s A k i k, zTs_s A k j k, zTs_le A (show k ≤ i by omega), zTs_le A (show k ≤ j by omega), zT_m A (by omega) (by omega), zT_m A h1 h2, zT_m A h2 (Nat.lt_irrefl k), zT_m A h1 (Nat.lt_irrefl k)]
      have h := zm_rec hn i j
      rw [zm_sym hA hn0 i k] at h
      grind
theorem zTs_kk {A : Nat → Nat → Int} {k : Nat} (hn : ∀ j, j ≤ k + 1 → ¬ zdet j A = 0) : zTs A (k + 1) k k = -zdet k A := by
  rw [zTs_le A (Nat.le_refl k), zT_uf A (Nat.lt_succ_self k), zP_ku hn (Nat.lt_succ_self k), if_neg (Nat.lt_irrefl k)]
theorem zTs_ik {A : Nat → Nat → Int} {k : Nat} (hn : ∀ j, j ≤ k + 1 → ¬ zdet j A = 0) {i : Nat} (hi : ¬ i = k) : zTs A (k + 1) i k = zTs A k i k := by
  have hn0 : ∀ j, j ≤ k → ¬ zdet j A = 0 := fun j h => hn j (by omega)
  have hP := zP_all hn0
  by_cases h : i < k
  · rw [zTs_le A (show i ≤ k by omega), zTs_le A (show i ≤ k by omega), zT_uf A (Nat.lt_succ_self k), zT_vl A (Nat.lt_irrefl k) h, zP_uk hn hP h]
    omega
  · rw [zTs_s A (k + 1) i k, zTs_s A k i k, zTs_le A (show k ≤ i by omega), zTs_le A (show k ≤ i by omega), zT_vl A (by omega) (Nat.lt_succ_self k), zT_m A h (Nat.lt_irrefl k), zP_kv hn]
theorem zThy : zTheory := by
  intro r d S hv
  have hu := zunk_le hv.1.2 d
  have hA := zGm_f r d S
  have hs := zGm_s r d S
  have hw5 : r.1 < 5 := by have := hv.1.2; omega
  have hDb : ∀ k, k ≤ zunk r.1 d → (∀ j, j ≤ k → 0 < zdet j (zGm r d S)) → zdet k (zGm r d S) ≤ 573440 := fun k hk hd => by
    have h1 := zGm_D hv d S hk hd
    have h2 := znum_3 r.1 hw5 d k (by omega) hk
    omega
  refine ⟨zTs (zGm r d S), fun k => zdet k (zGm r d S), ⟨⟨rfl, zTs_s _, fun i j hij hj => ?_, fun k hk hd => ?_⟩, fun k hk h0 => ?_⟩, rfl, ?_, ?_, fun hpos => ?_⟩
  · rw [zTs_le _ hij, zT_m _ (Nat.not_lt_zero _) (Nat.not_lt_zero _), zm_0]
  · have hd : ∀ j, j ≤ k → 0 < zdet j (zGm r d S) := hd
    have hkk : zTs (zGm r d S) k k k = zdet (k + 1) (zGm r d S) := by rw [zTs_le _ (Nat.le_refl k), zT_m _ (Nat.lt_irrefl k) (Nat.lt_irrefl k), zm_D]
    have hnn : 0 ≤ zdet (k + 1) (zGm r d S) := by rw [← zm_D]; exact zm_nn hA hd k
    have hle : ∀ j, 0 < zdet (k + 1) (zGm r d S) → j ≤ k + 1 → 0 < zdet j (zGm r d S) := fun j hp hj => by
      by_cases e : j = k + 1
      · rw [e]; exact hp
      · exact hd j (by omega)
    refine ⟨⟨Eq.symm hkk, hnn, ?_⟩, fun hp => ?_⟩
    · show zrg (zdet (k + 1) (zGm r d S))
      by_cases e : zdet (k + 1) (zGm r d S) = 0
      · rw [e]; exact ⟨by decide, by decide⟩
      · have := hDb (k + 1) (by omega) (fun j hj => hle j (by omega) hj)
        exact ⟨by omega, by omega⟩
    · have hd1 : ∀ j, j ≤ k + 1 → 0 < zdet j (zGm r d S) := fun j hj => hle j hp hj
      have hn : ∀ j, j ≤ k + 1 → ¬ zdet j (zGm r d S) = 0 := fun j h => by have := hd1 j h; omega
      have hDk := zGm_D hv d S (k := k) (by omega) hd
      have hDk2 := znum_7 r.1 hw5 d k (by omega) hk
      have hDk3 := hd k (Nat.le_refl _)
      have hall : ∀ i j, i ≤ j → i ≤ zunk r.1 d → j ≤ zunk r.1 d → ¬ i = k → ¬ j = k → zTs (zGm r d S) (k + 1) i j * zdet k (zGm r d S) = zTs (zGm r d S) k i j * zdet (k + 1) (zGm r d S) - zTs (zGm r d S) k i k * zTs (zGm r d S) k j k ∧ zrg (zTs (zGm r d S) (k + 1) i j * zdet k (zGm r d S)) := by
        intro i j hij hiu hju hi hj
        refine ⟨zTs_step hA hd1 i j hij hi hj, ?_⟩
        have hb : zab (zTs (zGm r d S) (k + 1) i j) 6000000000000 := by
          rw [zTs_le _ hij]
          by_cases h1 : j < k + 1
          · rw [zT_uf _ h1]
            have := zGm_uf hv d S (k := k + 1) (i := i) (l := j) (by omega)
            unfold zab at *
            omega
          · by_cases h2 : i < k + 1
            · rw [zT_vl _ h1 h2]
              have := zGm_vl hv d S (k := k + 1) (i := i) (j := j) (by omega) h2 hju
              unfold zab at *
              omega
            · rw [zT_m _ h1 h2]
              exact zGm_m hv d S (by omega) hd1 hiu hju
        exact zab_rg (zab_mul2 (b := 4096) (by decide) (by decide) hb (by unfold zab; omega)) (by decide)
      refine ⟨zTs_kk hn, fun i _ hi => zTs_ik hn hi, fun i j hiu hju hi hj => ?_⟩
      rcases Nat.le_total i j with h | h
      · exact hall i j h hiu hju hi hj
      · have := hall j i h hju hiu hj hi
        rw [zTs_s _ (k + 1) i j, zTs_s _ k i j]
        exact ⟨by rw [this.1]; grind, this.2⟩
  · rcases zgr_nn hA k with h | ⟨-, k2, h1, h2, h3⟩
    · have h4 := h k (Nat.le_refl _)
      have h5 : zdet k (zGm r d S) = 0 := h0
      omega
    · exact zgr_z hA (by omega) h2 h3
  · show 0 ≤ zdet (zunk r.1 d) (zGm r d S)
    rcases zgr_nn hA (zunk r.1 d) with h | ⟨h, -⟩
    · have := h _ (Nat.le_refl _)
      omega
    · omega
  · show zdet (zunk r.1 d) (zGm r d S) ≤ 600000
    rcases zgr_nn hA (zunk r.1 d) with h | ⟨h, -⟩
    · have := hDb _ (Nat.le_refl _) h
      omega
    · omega
  · have hpos2 : 0 < zdet (zunk r.1 d) (zGm r d S) := hpos
    have hd : ∀ j, j ≤ zunk r.1 d → 0 < zdet j (zGm r d S) := by
      rcases zgr_nn hA (zunk r.1 d) with h | ⟨h, -⟩
      · exact h
      · omega
    have hn : ∀ j, j ≤ zunk r.1 d → ¬ zdet j (zGm r d S) = 0 := fun j h => by have := hd j h; omega
    have e1 : zTs (zGm r d S) (zunk r.1 d) (zunk r.1 d) (zunk r.1 d) = zm (zGm r d S) (zunk r.1 d) (zunk r.1 d) (zunk r.1 d) := by rw [zTs_le _ (Nat.le_refl _), zT_m _ (Nat.lt_irrefl _) (Nat.lt_irrefl _)]
    refine ⟨by rw [e1]; exact zGm_m hv d S (Nat.le_refl _) hd (Nat.le_refl _) (Nat.le_refl _), ?_, fun i hi => ?_⟩
    · rw [e1, zm_lin, zSq]
      have e2 : zS (zunk r.1 d) (fun l => zco (zGm r d S) (zunk r.1 d) (zunk r.1 d) l * zGm r d S l (zunk r.1 d)) = -1 * zS (zunk r.1 d) (fun i => zVal (zGm r d S) (zunk r.1 d) i * zGm r d S i (zunk r.1 d)) := by
        rw [← zS_mul]
        exact zS_cong (fun l hl => by
          rw [zco_v hs hn hl]
          show -zVl (zGm r d S) (zunk r.1 d) l (zunk r.1 d) * _ = -1 * (zVl (zGm r d S) (zunk r.1 d) l (zunk r.1 d) * _)
          grind)
      rw [e2]
      omega
    · have e3 : zTs (zGm r d S) (zunk r.1 d) i (zunk r.1 d) = zVl (zGm r d S) (zunk r.1 d) i (zunk r.1 d) := by rw [zTs_le _ (by omega), zT_vl _ (Nat.lt_irrefl _) hi]
      have e4 : zTs (zGm r d S) (zunk r.1 d) i i = -zMin (zGm r d S) (zunk r.1 d) i := by rw [zTs_le _ (Nat.le_refl _), zT_uf _ hi, zuf_min hi]
      refine ⟨e3, by rw [e3]; exact zGm_vl hv d S (Nat.le_refl _) hi (Nat.le_refl _), e4, ?_⟩
      rw [e4]
      have := zGm_min hv d S hi
      unfold zab at *
      omega
