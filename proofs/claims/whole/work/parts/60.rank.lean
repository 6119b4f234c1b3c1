/-! rank by rows and by columns -/
/-- a weighted sum of some places of a line -/
def zph (m : Nat) (κ : Nat → Nat) (x v : Nat → Int) : Int := zS m (fun p => x p * v (κ p))
theorem zph_red {m : Nat} {κ : Nat → Nat} {x v b : Nat → Int} {l : Nat} (h : ¬ v l = 0) : zph m κ x (zred v b l) = b l * zph m κ x v + -(v l) * zph m κ x b := by
  unfold zph
  rw [← zS_lin]
  refine zS_cong (fun p _ => ?_)
  rw [show zred v b l = fun i => v i * b l - b i * v l from if_neg h]
  show x p * (v (κ p) * b l - b (κ p) * v l) = b l * (x p * v (κ p)) + -(v l) * (x p * b (κ p))
  grind
theorem zph_z {m : Nat} {κ : Nat → Nat} {x v : Nat → Int} (h : ∀ p, p < m → v (κ p) = 0) : zph m κ x v = 0 := zS_z (fun p hp => by
  show x p * v (κ p) = 0
  rw [h p hp]
  omega)
theorem zra_f {bs : Nat → Nat → Int} {ld : Nat → Nat} {m : Nat} {κ : Nat → Nat} {x v : Nat → Int} : ∀ {k : Nat}, (∀ j, j < k → zph m κ x (bs j) = 0) → zph m κ x v = 0 → zph m κ x (zrall bs ld k v) = 0
  | 0, _, h => h
  | k + 1, hb, h => by
    have ih := zra_f (ld := ld) (k := k) (fun j hj => hb j (by omega)) h
    show zph m κ x (zred (zrall bs ld k v) (bs k) (ld k)) = 0
    by_cases e : zrall bs ld k v (ld k) = 0
    · rw [show zred (zrall bs ld k v) (bs k) (ld k) = zrall bs ld k v from if_pos e]
      exact ih
    · rw [zph_red e, ih, hb k (by omega)]
      omega
theorem zra_b {bs : Nat → Nat → Int} {ld : Nat → Nat} {m : Nat} {κ : Nat → Nat} {x v : Nat → Int} : ∀ {k : Nat}, (∀ j, j < k → zph m κ x (bs j) = 0 ∧ ¬ bs j (ld j) = 0) → zph m κ x (zrall bs ld k v) = 0 → zph m κ x v = 0
  | 0, _, h => h
  | k + 1, hb, h => by
    refine zra_b (bs := bs) (ld := ld) (k := k) (fun j hj => hb j (by omega)) ?_
    have h2 : zph m κ x (zred (zrall bs ld k v) (bs k) (ld k)) = 0 := h
    by_cases e : zrall bs ld k v (ld k) = 0
    · rw [show zred (zrall bs ld k v) (bs k) (ld k) = zrall bs ld k v from if_pos e] at h2
      exact h2
    · rw [zph_red e, (hb k (by omega)).1, Int.mul_zero, Int.add_zero] at h2
      exact (Int.mul_eq_zero.mp h2).resolve_left (hb k (by omega)).2
theorem zra_z {bs : Nat → Nat → Int} {ld : Nat → Nat} {v : Nat → Int} : ∀ {k : Nat}, (∀ j i, j < k → i < j → bs j (ld i) = 0) → ∀ i, i < k → zrall bs ld k v (ld i) = 0
  | 0, _, i, hi => absurd hi (Nat.not_lt_zero _)
  | k + 1, hb, i, hi => by
    have ih := zra_z (bs := bs) (ld := ld) (v := v) (k := k) (fun j i hj => hb j i (by omega))
    show zred (zrall bs ld k v) (bs k) (ld k) (ld i) = 0
    by_cases e : zrall bs ld k v (ld k) = 0
    · rw [show zred (zrall bs ld k v) (bs k) (ld k) = zrall bs ld k v from if_pos e]
      by_cases q : i = k
      · rw [q]; exact e
      · exact ih i (by omega)
    · rw [show zred (zrall bs ld k v) (bs k) (ld k) = fun i => zrall bs ld k v i * bs k (ld k) - bs k i * zrall bs ld k v (ld k) from if_neg e]
      show zrall bs ld k v (ld i) * bs k (ld k) - bs k (ld i) * zrall bs ld k v (ld k) = 0
      by_cases q : i = k
      · rw [q, Int.mul_comm]
        exact Int.sub_self _
      · rw [ih i (by omega), hb k i (by omega) (by omega)]
        omega
theorem zfst_inv {x : Nat → Int} : ∀ n, (zfst x n = none → ∀ i, i < n → x i = 0) ∧ ∀ c, zfst x n = some c → c < n ∧ ¬ x c = 0
  | 0 => ⟨fun _ i hi => absurd hi (Nat.not_lt_zero _), fun c h => (by cases h)⟩
  | n + 1 => by
    obtain ⟨a1, a2⟩ := zfst_inv (x := x) n
    cases f : zfst x n with
    | none =>
      have a3 := a1 f
      by_cases e : x n = 0
      · have g : zfst x (n + 1) = none := by rw [zfst, f]; exact if_pos e
        rw [g]
        refine ⟨fun _ i hi => ?_, fun c h => (by cases h)⟩
        by_cases q : i = n
        · rw [q]; exact e
        · exact a3 i (by omega)
      · have g : zfst x (n + 1) = some n := by rw [zfst, f]; exact if_neg e
        rw [g]
        refine ⟨fun h => (by cases h), fun c h => ?_⟩
        cases h
        exact ⟨Nat.lt_succ_self n, e⟩
    | some i =>
      have g : zfst x (n + 1) = some i := by rw [zfst, f]
      rw [g]
      refine ⟨fun h => (by cases h), fun c h => ?_⟩
      cases h
      have a3 := a2 i f
      exact ⟨by omega, a3.2⟩
/-- a basis stands for the lines of a set -/
def zgb (cols : Nat) (vs : Nat → Nat → Int) (S : Nat → Prop) (s : zBs) : Prop := s.1 ≤ cols ∧ (∀ k, k < s.1 → s.2.2 k < cols ∧ ¬ s.2.1 k (s.2.2 k) = 0) ∧ (∀ j k, j < s.1 → k < j → s.2.1 j (s.2.2 k) = 0) ∧ (∀ m κ x, (∀ t, S t → zph m κ x (vs t) = 0) → ∀ j, j < s.1 → zph m κ x (s.2.1 j) = 0) ∧ (s.1 < cols → ∀ m κ x, (∀ p, p < m → κ p < cols) → (∀ j, j < s.1 → zph m κ x (s.2.1 j) = 0) → ∀ t, S t → zph m κ x (vs t) = 0)
theorem zgb_cg {cols : Nat} {vs : Nat → Nat → Int} {S T : Nat → Prop} {s : zBs} (h : zgb cols vs S s) (e : ∀ t, S t ↔ T t) : zgb cols vs T s := by
  rw [← show S = T from funext (fun t => propext (e t))]
  exact h
theorem zgb_0 (cols : Nat) (vs : Nat → Nat → Int) : zgb cols vs (fun _ => False) zb0 := ⟨Nat.zero_le _, fun k hk => absurd hk (Nat.not_lt_zero _), fun j k hj => absurd hj (Nat.not_lt_zero _), fun _ _ _ _ j hj => absurd hj (Nat.not_lt_zero _), fun _ _ _ _ _ _ t ht => False.elim ht⟩
theorem zext_none {cols : Nat} {s : zBs} {v : Nat → Int} (e : ¬ cols ≤ s.1) (f : zfst (zrall s.2.1 s.2.2 s.1 v) cols = none) : zext cols s v = s := by
  rw [zext, if_neg e, f]
theorem zext_some {cols c : Nat} {s : zBs} {v : Nat → Int} (e : ¬ cols ≤ s.1) (f : zfst (zrall s.2.1 s.2.2 s.1 v) cols = some c) : zext cols s v = (s.1 + 1, va_up s.2.1 s.1 (zrall s.2.1 s.2.2 s.1 v), va_up s.2.2 s.1 c) := by
  rw [zext, if_neg e, f]
theorem zup_e {α : Type} (f : Nat → α) (c : Nat) (g : α) : va_up f c g c = g := if_pos rfl
theorem zup_n {α : Type} (f : Nat → α) {c i : Nat} (g : α) (h : ¬ i = c) : va_up f c g i = f i := if_neg h
theorem zgb_ext {cols : Nat} {vs : Nat → Nat → Int} {S : Nat → Prop} {s : zBs} (h : zgb cols vs S s) (t : Nat) : zgb cols vs (fun k => S k ∨ k = t) (zext cols s (vs t)) := by
  obtain ⟨h1, h2, h3, h4, h5⟩ := h
  by_cases e : cols ≤ s.1
  · rw [show zext cols s (vs t) = s from if_pos e]
    exact ⟨h1, h2, h3, fun m κ x hx => h4 m κ x (fun t ht => hx t (Or.inl ht)), fun z => absurd e (by omega)⟩
  · cases f : zfst (zrall s.2.1 s.2.2 s.1 (vs t)) cols with
    | none =>
      have hz := (zfst_inv _).1 f
      rw [zext_none e f]
      refine ⟨h1, h2, h3, fun m κ x hx => h4 m κ x (fun t ht => hx t (Or.inl ht)), fun z m κ x hκ hx k hk => ?_⟩
      rcases hk with hk | rfl
      · exact h5 z m κ x hκ hx k hk
      · exact zra_b (ld := s.2.2) (k := s.1) (fun j hj => ⟨hx j hj, (h2 j hj).2⟩) (zph_z (fun p hp => hz _ (hκ p hp)))
    | some c =>
      have hz := (zfst_inv _).2 c f
      rw [zext_some e f]
      generalize hr : zrall s.2.1 s.2.2 s.1 (vs t) = r at hz
      refine ⟨by show s.1 + 1 ≤ cols; omega, fun k hk => ?_, fun j k hj hk => ?_, fun m κ x hx j hj => ?_, fun z m κ x hκ hx k hk => ?_⟩
      · have hk2 : k < s.1 + 1 := hk
        show va_up s.2.2 s.1 c k < cols ∧ ¬ va_up s.2.1 s.1 r k (va_up s.2.2 s.1 c k) = 0
        by_cases q : k = s.1
        · rw [q, zup_e, zup_e]
          exact hz
        · rw [zup_n _ _ q, zup_n _ _ q]
          exact h2 k (by omega)
      · have hj2 : j < s.1 + 1 := hj
        show va_up s.2.1 s.1 r j (va_up s.2.2 s.1 c k) = 0
        rw [zup_n s.2.2 _ (show ¬ k = s.1 by omega)]
        by_cases q : j = s.1
        · rw [q, zup_e, ← hr]
          exact zra_z (fun j i hj hi => h3 j i hj hi) k (by omega)
        · rw [zup_n _ _ q]
          exact h3 j k (by omega) hk
      · have hj2 : j < s.1 + 1 := hj
        show zph m κ x (va_up s.2.1 s.1 r j) = 0
        have h6 := h4 m κ x (fun t ht => hx t (Or.inl ht))
        by_cases q : j = s.1
        · rw [q, zup_e, ← hr]
          exact zra_f h6 (hx t (Or.inr rfl))
        · rw [zup_n _ _ q]
          exact h6 j (by omega)
      · have z2 : s.1 + 1 < cols := z
        have h6 : ∀ j, j < s.1 → zph m κ x (s.2.1 j) = 0 := fun j hj => by
          have h7 : zph m κ x (va_up s.2.1 s.1 r j) = 0 := hx j (by show j < s.1 + 1; omega)
          rwa [zup_n _ _ (show ¬ j = s.1 by omega)] at h7
        rcases hk with hk | rfl
        · exact h5 (by omega) m κ x hκ h6 k hk
        · have h7 : zph m κ x (va_up s.2.1 s.1 r s.1) = 0 := hx s.1 (Nat.lt_succ_self _)
          rw [zup_e, ← hr] at h7
          exact zra_b (fun j hj => ⟨h6 j hj, (h2 j hj).2⟩) h7
theorem zext_rk (cols : Nat) (s : zBs) (v : Nat → Int) : s.1 ≤ (zext cols s v).1 ∧ (zext cols s v).1 ≤ s.1 + 1 := by
  by_cases e : cols ≤ s.1
  · rw [show zext cols s v = s from if_pos e]
    omega
  · cases f : zfst (zrall s.2.1 s.2.2 s.1 v) cols with
    | none =>
      rw [zext_none e f]
      omega
    | some c =>
      rw [zext_some e f]
      exact ⟨Nat.le_succ _, Nat.le_refl _⟩
theorem zgb_rk (cols : Nat) (vs : Nat → Nat → Int) : ∀ n, zgb cols vs (fun t => t < n) (zrkS cols vs n)
  | 0 => zgb_cg (zgb_0 cols vs) (fun t => ⟨fun z => False.elim z, fun z => absurd z (Nat.not_lt_zero _)⟩)
  | n + 1 => zgb_cg (zgb_ext (zgb_rk cols vs n) n) (fun t => by omega)
theorem zlow_b : ∀ s, s < 256 → 0 < s → zlow s < 8 ∧ ∀ t, t < 8 → (s / 2 ^ t % 2 = 1 ↔ ((s &&& (s - 1)) / 2 ^ t % 2 = 1 ∨ t = zlow s)) := by decide +kernel
theorem zgb_bs (cols : Nat) (vs : Nat → Nat → Int) : ∀ (k s : Nat), s ≤ k → s < 256 → zgb cols vs (fun t => t < 8 ∧ s / 2 ^ t % 2 = 1) (zbs cols vs s)
  | k, s, hs, h2 => by
    by_cases e : s = 0
    · rw [e, zbs_0]
      exact zgb_cg (zgb_0 cols vs) (fun t => ⟨fun z => False.elim z, fun z => by
        have z2 := z.2
        rw [Nat.zero_div] at z2
        omega⟩)
    · have h3 := zand_lt e
      have h4 := zlow_b s h2 (by omega)
      rw [zbs_s _ _ e]
      cases k with
      | zero => omega
      | succ k =>
        refine zgb_cg (zgb_ext (zgb_bs cols vs k (s &&& (s - 1)) (by omega) (by omega)) (zlow s)) (fun t => ?_)
        constructor
        · rintro (⟨z1, z2⟩ | z)
          · exact ⟨z1, (h4.2 t z1).mpr (Or.inl z2)⟩
          · exact ⟨by rw [z]; exact h4.1, (h4.2 t (by rw [z]; exact h4.1)).mpr (Or.inr z)⟩
        · rintro ⟨z1, z2⟩
          rcases (h4.2 t z1).mp z2 with z | z
          · exact Or.inl ⟨z1, z⟩
          · exact Or.inr z
/-- fewer conditions than numbers: some numbers, not all 0, meet them -/
theorem zhom : ∀ (ρ m : Nat) (B : Nat → Nat → Int), ρ < m → ∃ x : Nat → Int, (∃ p, p < m ∧ ¬ x p = 0) ∧ ∀ j, j < ρ → zS m (fun p => x p * B j p) = 0
  | 0, m, B, h => ⟨fun _ => 1, ⟨0, h, by decide⟩, fun j hj => absurd hj (Nat.not_lt_zero _)⟩
  | ρ + 1, m, B, h => by
    by_cases e : ∀ p, p < m → B ρ p = 0
    · obtain ⟨x, hx, h2⟩ := zhom ρ m B (by omega)
      refine ⟨x, hx, fun j hj => ?_⟩
      by_cases q : j = ρ
      · exact zS_z (fun p hp => by
          show x p * B j p = 0
          rw [q, e p hp]
          omega)
      · exact h2 j (by omega)
    · obtain ⟨p0, hp1, hp2⟩ : ∃ p0, p0 < m ∧ ¬ B ρ p0 = 0 := Classical.byContradiction (fun z => e (fun p hp => Classical.byContradiction (fun z2 => z ⟨p, hp, z2⟩)))
      obtain ⟨n, rfl⟩ : ∃ n, m = n + 1 := ⟨m - 1, by omega⟩
      obtain ⟨x, ⟨p1, hp3, hp4⟩, h2⟩ := zhom ρ n (fun j q => B j (zskp p0 q) * B ρ p0 - B ρ (zskp p0 q) * B j p0) (by omega)
      have hsk : ∀ q, (if zskp p0 q < p0 then zskp p0 q else zskp p0 q - 1) = q := fun q => by unfold zskp; (repeat' split) <;> omega
      obtain ⟨y, hy0, hy1⟩ : ∃ y : Nat → Int, y p0 = -zS n (fun q => x q * B ρ (zskp p0 q)) ∧ ∀ q, y (zskp p0 q) = x q * B ρ p0 := ⟨fun p => if p = p0 then -zS n (fun q => x q * B ρ (zskp p0 q)) else x (if p < p0 then p else p - 1) * B ρ p0, if_pos rfl, fun q => by
        show (if zskp p0 q = p0 then _ else x (if zskp p0 q < p0 then zskp p0 q else zskp p0 q - 1) * B ρ p0) = _
        rw [if_neg (zskp_ne p0 q), hsk]⟩
      have key : ∀ j, zS (n + 1) (fun p => y p * B j p) = zS n (fun q => x q * (B j (zskp p0 q) * B ρ p0 - B ρ (zskp p0 q) * B j p0)) := fun j => by
        rw [zS_skp _ n p0 hp1, hy0]
        have e1 : zS n (fun q => y (zskp p0 q) * B j (zskp p0 q)) = B ρ p0 * zS n (fun q => x q * B j (zskp p0 q)) := by
          rw [← zS_mul]
          exact zS_cong (fun q _ => by rw [hy1]; grind)
        have e2 : zS n (fun q => x q * (B j (zskp p0 q) * B ρ p0 - B ρ (zskp p0 q) * B j p0)) = B ρ p0 * zS n (fun q => x q * B j (zskp p0 q)) + -(B j p0) * zS n (fun q => x q * B ρ (zskp p0 q)) := by
          rw [← zS_lin]
          exact zS_cong (fun q _ => by grind)
        rw [e1, e2]
        grind
      refine ⟨y, ⟨zskp p0 p1, zskp_lt hp3, ?_⟩, fun j hj => ?_⟩
      · rw [hy1]
        intro z
        rcases Int.mul_eq_zero.mp z with z | z
        · exact hp4 z
        · exact hp2 z
      · rw [key j]
        by_cases q : j = ρ
        · rw [q]
          exact zS_z (fun q _ => by
            show x q * (B ρ (zskp p0 q) * B ρ p0 - B ρ (zskp p0 q) * B ρ p0) = 0
            rw [Int.sub_self, Int.mul_zero])
        · exact h2 j (by omega)
theorem zdp_1 {A g : Nat → Nat → Int} {n m : Nat} (hA : ∀ i j, A i j = zS n (fun t => g t i * g t j)) {x : Nat → Int} {p : Nat} (hp : p < m) (hx : ¬ x p = 0) (h : ∀ t, t < n → zS m (fun l => x l * g t l) = 0) : zdet m A = 0 := by
  have h4 := zdet_comb (n := m) A (r := p) hp x
  rw [zdet_zr (r := p) _ hp (fun q hq => ?_)] at h4
  · exact (Int.mul_eq_zero.mp (Eq.symm h4)).resolve_left hx
  · rw [zrw_r]
    have e1 : zS m (fun l => x l * A l q) = zS m (fun l => zS n (fun t => x l * (g t l * g t q))) := zS_cong (fun l _ => by rw [hA, ← zS_mul])
    rw [e1, zS_swap (fun l t => x l * (g t l * g t q)) n m]
    refine zS_z (fun t ht => ?_)
    have e2 : zS m (fun l => x l * (g t l * g t q)) = g t q * zS m (fun l => x l * g t l) := by
      rw [← zS_mul]
      exact zS_cong (fun l _ => by grind)
    rw [e2, h t ht, Int.mul_zero]
theorem zdp_2 {A g : Nat → Nat → Int} {n m : Nat} (hA : ∀ i j, A i j = zS n (fun t => g t i * g t j)) (h : zdet m A = 0) : ∃ x : Nat → Int, (∃ p, p < m ∧ ¬ x p = 0) ∧ ∀ t, t < n → zS m (fun l => x l * g t l) = 0 := by
  rcases zgr_nn hA m with q | ⟨-, k, hk, hd, h0⟩
  · have := q m (Nat.le_refl _)
    omega
  · have hV := zm_Vk (A := A) k (fun j hj => by have := hd j hj; omega)
    have h1 := zgv_2 hA hV k k
    rw [zm_D, h0, Int.mul_zero] at h1
    refine ⟨fun l => if l < k then zco A k k l else if l = k then zdet k A else 0, ⟨k, hk, ?_⟩, fun t ht => ?_⟩
    · show ¬ (if k < k then zco A k k k else if k = k then zdet k A else 0) = 0
      rw [if_neg (Nat.lt_irrefl k), if_pos rfl]
      have := hd k (Nat.le_refl _)
      omega
    · have h2 := zS_nz (f := fun t => zgv A g k k t * zgv A g k k t) (fun t => zsq_nn _) h1 t ht
      have h3 : zgv A g k k t = 0 := by rcases Int.mul_eq_zero.mp h2 with z | z <;> exact z
      show zS m (fun l => (if l < k then zco A k k l else if l = k then zdet k A else 0) * g t l) = 0
      rw [zS_ps (Nat.le_refl k) hk]
      exact h3
/-- what a rank is: no more columns are apart, and so many are -/
def zrp (u : Nat) (G : Nat → Nat → Int) (ρ : Nat) : Prop := (∀ c, c < 2 ^ u → ρ < zpk c u → zdet (zpk c u) (zmn G u c (-9)) = 0) ∧ ∃ c, c < 2 ^ u ∧ zpk c u = ρ ∧ ¬ zdet (zpk c u) (zmn G u c (-9)) = 0
theorem zrp_uq {u : Nat} {G : Nat → Nat → Int} {a b : Nat} (ha : zrp u G a) (hb : zrp u G b) : a = b := by
  obtain ⟨a1, c, c1, c2, c3⟩ := ha
  obtain ⟨b1, e, e1, e2, e3⟩ := hb
  rcases Nat.lt_trichotomy a b with h | h | h
  · exact absurd (a1 e e1 (by omega)) e3
  · exact h
  · exact absurd (b1 c c1 (by omega)) c3
theorem zlds_0 : ∀ u, u < 6 → zpk 0 u = 0 := by decide +kernel
theorem zlds_1 : ∀ u, u < 6 → ∀ s, s < 2 ^ u → ∀ l, l < u → s / 2 ^ l % 2 = 0 → s + 2 ^ l < 2 ^ u ∧ zpk (s + 2 ^ l) u = zpk s u + 1 := by decide +kernel
theorem zlds_2 : ∀ s, s < 32 → ∀ l, l < 5 → ∀ i, i < 5 → s / 2 ^ l % 2 = 1 ∨ (s + 2 ^ l) / 2 ^ i % 2 = (if i = l then 1 else s / 2 ^ i % 2) := by decide +kernel
theorem zlds {u : Nat} (hu : u ≤ 5) {ld : Nat → Nat} : ∀ ρ, (∀ k, k < ρ → ld k < u) → (∀ j k, j < ρ → k < j → ¬ ld j = ld k) → ∃ c, c < 2 ^ u ∧ zpk c u = ρ ∧ ∀ i, i < u → (c / 2 ^ i % 2 = 1 ↔ ∃ k, k < ρ ∧ ld k = i)
  | 0, _, _ => ⟨0, Nat.pow_pos (by decide), zlds_0 u (by omega), fun i _ => ⟨fun z => by
      rw [Nat.zero_div] at z
      omega, fun ⟨k, hk, _⟩ => absurd hk (Nat.not_lt_zero _)⟩⟩
  | ρ + 1, h1, h2 => by
    obtain ⟨c, c1, c2, c3⟩ := zlds hu ρ (fun k hk => h1 k (by omega)) (fun j k hj hk => h2 j k (by omega) hk)
    have hl := h1 ρ (Nat.lt_succ_self ρ)
    have hb : ¬ c / 2 ^ ld ρ % 2 = 1 := fun z => by
      obtain ⟨k, hk, e⟩ := (c3 _ hl).mp z
      exact h2 ρ k (Nat.lt_succ_self ρ) hk (Eq.symm e)
    obtain ⟨e1, e2⟩ := zlds_1 u (by omega) c c1 (ld ρ) hl (by omega)
    have h32 := zp32 hu
    have e3 : ∀ i, i < u → ((c + 2 ^ ld ρ) / 2 ^ i % 2 = 1 ↔ (c / 2 ^ i % 2 = 1 ∨ i = ld ρ)) := fun i hi => by
      rw [(zlds_2 c (by omega) (ld ρ) (by omega) i (by omega)).resolve_left hb]
      by_cases q : i = ld ρ
      · rw [if_pos q]
        exact ⟨fun _ => Or.inr q, fun _ => rfl⟩
      · rw [if_neg q]
        exact ⟨fun z => Or.inl z, fun z => z.resolve_right q⟩
    refine ⟨c + 2 ^ ld ρ, e1, by rw [e2, c2], fun i hi => ?_⟩
    rw [e3 i hi, c3 i hi]
    constructor
    · rintro (⟨k, hk, z⟩ | z)
      · exact ⟨k, by omega, z⟩
      · exact ⟨ρ, Nat.lt_succ_self ρ, Eq.symm z⟩
    · rintro ⟨k, hk, z⟩
      by_cases q : k = ρ
      · right
        rw [← z, q]
      · exact Or.inl ⟨k, by omega, z⟩
theorem zch_b : ∀ u, u < 6 → ∀ s, s < 2 ^ u → ∀ m, m < zpk s u → s / 2 ^ zch s m % 2 = 1 := by decide +kernel
theorem zmn_p {G : Nat → Nat → Int} {u c : Nat} (hu : u ≤ 5) (hc : c < 2 ^ u) : zdet (zpk c u) (zmn G u c (-9)) = zdet (zpk c u) (fun p q => G (zch c p) (zch c q)) := zdet_cg (fun p q _ hq => by
  have h := zch_2 u (by omega) c hc q hq
  exact if_neg (zn9 (by omega)))
theorem zgb_rp {r : zRo} {d : Bool} {S : Nat → Bool} {s : zBs} (hv : zVr r) (h : zgb (zunk r.1 d) (zvs r d) (fun t => t < r.2.1 ∧ S t = true) s) : zrp (zunk r.1 d) (zGm r d S) s.1 := by
  have hu := zunk_le hv.1.2 d
  obtain ⟨h1, h2, h3, h4, h5⟩ := h
  generalize hU : zunk r.1 d = u at *
  have hff : ∀ m κ x t, (t < r.2.1 ∧ S t = true → zph m κ x (zvs r d t) = 0) → t < r.2.1 → zS m (fun l => x l * zff r d S t (κ l)) = 0 := fun m κ x t hz ht => by
    by_cases e : S t = true
    · refine Eq.trans (zS_cong (fun l _ => ?_)) (hz ⟨ht, e⟩)
      unfold zff
      rw [if_pos e]
      rfl
    · exact zS_z (fun l _ => by
        show x l * zff r d S t (κ l) = 0
        unfold zff
        rw [if_neg e, Int.mul_zero])
  refine ⟨fun c hc hlt => ?_, ?_⟩
  · have hm := zpk_le c u
    obtain ⟨x, ⟨p, hp, hx⟩, hz⟩ := zhom s.1 (zpk c u) (fun j p => s.2.1 j (zch c p)) hlt
    have h6 := h5 (by omega) (zpk c u) (zch c) x (fun p hp => zch_2 u (by omega) c hc p hp) hz
    rw [zmn_p hu hc]
    exact zdp_1 (g := fun t i => zff r d S t (zch c i)) (fun i j => zGm_f r d S _ _) hp hx (fun t ht => hff _ (zch c) x t (fun z => h6 t z) ht)
  · obtain ⟨c, c1, c2, c3⟩ := zlds hu s.1 (fun k hk => (h2 k hk).1) (fun j k hj hk z => (h2 j hj).2 (by rw [z]; exact h3 j k hj hk))
    refine ⟨c, c1, c2, fun hz => ?_⟩
    rw [zmn_p hu c1] at hz
    obtain ⟨x, ⟨p1, hp1, hx1⟩, hx⟩ := zdp_2 (g := fun t i => zff r d S t (zch c i)) (fun i j => zGm_f r d S _ _) hz
    rw [c2] at hp1 hx
    have h6 := h4 s.1 (zch c) x (fun t ht => by
      refine Eq.trans (zS_cong (fun l _ => ?_)) (hx t ht.1)
      unfold zff
      rw [if_pos ht.2]
      rfl)
    have hlead : ∀ p, p < s.1 → ∃ k, k < s.1 ∧ s.2.2 k = zch c p := fun p hp => (c3 _ (zch_2 u (by omega) c c1 p (by omega))).mp (zch_b u (by omega) c c1 p (by omega))
    have hinj : ∀ p q, p < s.1 → q < s.1 → zch c p = zch c q → p = q := fun p q hp hq e => zch_3 c (by have := zp32 hu; omega) p (by rw [← zpk_5 u (by omega) c c1]; omega) q (by rw [← zpk_5 u (by omega) c c1]; omega) e
    have key : ∀ e j, s.1 - j ≤ e → j < s.1 → ∀ p, p < s.1 → zch c p = s.2.2 j → x p = 0 := by
      intro e
      induction e with
      | zero => intro j hj hj2; omega
      | succ e ih =>
        intro j hj hj2 p hp hpe
        have hzj : zS s.1 (fun p => x p * s.2.1 j (zch c p)) = 0 := h6 j hj2
        rw [zS_one (r := p) hp (fun q hq hne => ?_)] at hzj
        · rw [hpe] at hzj
          exact (Int.mul_eq_zero.mp hzj).resolve_right (h2 j hj2).2
        · obtain ⟨k, hk, hke⟩ := hlead q hq
          rcases Nat.lt_trichotomy k j with z | z | z
          · rw [← hke, h3 j k hj2 z, Int.mul_zero]
          · exact absurd (hinj q p hq hp (by rw [hpe, ← hke, z])) hne
          · rw [ih k (by omega) hk q hq (Eq.symm hke), Int.zero_mul]
    obtain ⟨k, hk, hke⟩ := hlead p1 hp1
    exact hx1 (key s.1 k (by omega) hk p1 hp1 (Eq.symm hke))
theorem zbit_n {s n t : Nat} (hs : s < 2 ^ n) (h : s / 2 ^ t % 2 = 1) : t < n := by
  rcases Nat.lt_or_ge t n with q | q
  · exact q
  · rw [Nat.div_eq_of_lt (Nat.lt_of_lt_of_le hs (Nat.pow_le_pow_right (by decide) q))] at h
    omega
theorem zgb_st {r : zRo} (hv : zVr r) (d : Bool) {s : Nat} (hs : s < 2 ^ r.2.1) : zgb (zunk r.1 d) (zvs r d) (fun t => t < r.2.1 ∧ zst s t = true) (zbs (zunk r.1 d) (zvs r d) s) := by
  have h8 := hv.2.2.1
  have h2 := (zp2 h8).2
  refine zgb_cg (zgb_bs _ _ s s (Nat.le_refl _) (by omega)) (fun t => ⟨fun z => ⟨zbit_n hs z.2, decide_eq_true z.2⟩, fun z => ⟨by omega, of_decide_eq_true z.2⟩⟩)
theorem zrk_rp {r : zRo} (hv : zVr r) (d : Bool) {s : Nat} (hs : s < 2 ^ r.2.1) : zrp (zunk r.1 d) (zGm r d (zst s)) (zrk r d s) := zgb_rp hv (zgb_st hv d hs)
theorem zrank_rp {r : zRo} (hv : zVr r) (d : Bool) : zrp (zunk r.1 d) (zGm r d zall) (zop_rank r d) := zgb_rp hv (zgb_cg (zgb_rk _ _ r.2.1) (fun t => ⟨fun z => ⟨z, rfl⟩, fun z => z.1⟩))
theorem zor_b : ∀ s, s < 256 → ∀ j, j < 8 → ∀ t, t < 8 → ((s ||| 2 ^ j) / 2 ^ t % 2 = 1 ↔ (s / 2 ^ t % 2 = 1 ∨ t = j)) := by decide +kernel
theorem zor_lt : ∀ n, n < 9 → ∀ s, s < 2 ^ n → ∀ j, j < n → s ||| 2 ^ j < 2 ^ n := by decide +kernel
theorem zrk_step {r : zRo} (hv : zVr r) (d : Bool) {s j : Nat} (hs : s < 2 ^ r.2.1) (hj : j < r.2.1) : zrk r d s ≤ zrk r d (s ||| 2 ^ j) ∧ zrk r d (s ||| 2 ^ j) ≤ zrk r d s + 1 := by
  have h8 := hv.2.2.1
  have h2 := (zp2 h8).2
  have ho := zor_lt r.2.1 (by omega) s hs j hj
  have a1 := zrk_rp hv d ho
  have a2 := zgb_ext (zgb_st hv d hs) j
  have a3 := zgb_rp (S := zst (s ||| 2 ^ j)) hv (zgb_cg a2 (fun t => by
    constructor
    · rintro (⟨z1, z2⟩ | z)
      · exact ⟨z1, decide_eq_true ((zor_b s (by omega) j (by omega) t (by omega)).mpr (Or.inl (of_decide_eq_true z2)))⟩
      · exact ⟨by omega, decide_eq_true ((zor_b s (by omega) j (by omega) t (by omega)).mpr (Or.inr z))⟩
    · rintro ⟨z1, z2⟩
      rcases (zor_b s (by omega) j (by omega) t (by omega)).mp (of_decide_eq_true z2) with z | z
      · exact Or.inl ⟨z1, decide_eq_true z⟩
      · exact Or.inr z))
  have a4 := zrp_uq a1 a3
  rw [a4]
  exact zext_rk _ _ _
theorem zful_5 : ∀ u, u < 6 → ∀ c, c < 2 ^ u → zpk c u = u → c = 2 ^ u - 1 := by decide +kernel
theorem zrk_full {r : zRo} (hv : zVr r) {d : Bool} {S : Nat → Bool} {ρ : Nat} (h : zrp (zunk r.1 d) (zGm r d S) ρ) : ρ = zunk r.1 d ↔ ¬ zdet (zunk r.1 d) (zGm r d S) = 0 := by
  have hu := zunk_le hv.1.2 d
  obtain ⟨h1, c, c1, c2, c3⟩ := h
  have hp : 1 ≤ 2 ^ zunk r.1 d := z2p
  have e := zmn_f (G := zGm r d S) hu
  constructor
  · intro z
    rw [zful_5 _ (by omega) c c1 (by omega), e] at c3
    exact c3
  · intro z
    have hle := zpk_le c (zunk r.1 d)
    rcases Nat.lt_or_ge ρ (zunk r.1 d) with q | q
    · have := h1 (2 ^ zunk r.1 d - 1) (by omega) (by rw [zful_1 _ (by omega)]; exact q)
      rw [e] at this
      exact absurd this z
    · omega
