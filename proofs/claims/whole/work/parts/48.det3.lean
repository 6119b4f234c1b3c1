/-! a unit row; columns replaced; the swept table -/
theorem zS_skp (f : Nat → Int) : ∀ (n i : Nat), i < n + 1 → zS (n + 1) f = f i + zS n (fun m => f (zskp i m))
  | 0, i, h => by
    rw [show i = 0 by omega]
    show 0 + f 0 = f 0 + 0
    omega
  | n + 1, i, h => by
    rw [zS]
    by_cases e : i = n + 1
    · subst e
      rw [zS_cong (f := fun m => f (zskp (n + 1) m)) (g := f) (fun k hk => by rw [zskp_l hk])]
      omega
    · rw [zS_skp f n i (by omega), zS, show zskp i n = n + 1 by unfold zskp; split <;> omega]
      omega
theorem zskp_2 {r s p l r2 : Nat} (hl : l = zskp r s) (hr : r2 = (if r < l then r else r - 1)) : zskp l (zskp r2 p) = zskp r (zskp s p) := by
  subst hl
  subst hr
  unfold zskp
  (repeat' split) <;> omega
theorem zsg_2 {m r s c l r2 : Nat} (hs : s < m + 1) (hr0 : r < m + 2) (hl : l = zskp r s) (hr : r2 = (if r < l then r else r - 1)) : zsg (m + 1) l * zsg (r2 + c) 0 = zsg (r + c) 0 * zsg m s := by
  subst hl
  subst hr
  unfold zsg zskp
  (repeat' split) <;> omega
def zunt (c : Nat) : Nat → Int := fun q => if q = c then 1 else 0
theorem zdet_unit : ∀ {n : Nat} (A : Nat → Nat → Int) {r c : Nat}, r < n + 1 → c < n + 1 → (∀ q, q < n + 1 → A r q = zunt c q) → zdet (n + 1) A = zsg (r + c) 0 * zdet n (fun p q => A (zskp r p) (zskp c q))
  | 0, A, r, c, hr, hc, h => by
    have er : r = 0 := by omega
    have ec : c = 0 := by omega
    subst er
    subst ec
    have h0 : A 0 0 = 1 := h 0 (by omega)
    rw [zdet_s]
    show 0 + zsg 0 0 * A 0 0 * 1 = zsg 0 0 * 1
    rw [h0]
    omega
  | m + 1, A, r, c, hr, hc, h => by
    rw [zdet_s, zS_skp _ (m + 1) r hr]
    by_cases e : c = m + 1
    · subst e
      rw [zS_z (fun s hs => ?_)]
      · have e1 : A r (m + 1) = 1 := (h (m + 1) (by omega)).trans (if_pos rfl)
        have e2 : zdet (m + 1) (fun p q => A (zskp r p) q) = zdet (m + 1) (fun p q => A (zskp r p) (zskp (m + 1) q)) := zdet_cg (fun p q _ hq => by rw [zskp_l hq])
        have e3 : zsg (m + 1) r = zsg (r + (m + 1)) 0 := by unfold zsg; split <;> split <;> omega
        rw [e1, e2, e3, Int.mul_one, Int.add_zero]
      · have hne : ¬ zskp r s = r := zskp_ne r s
        rw [zdet_zr (r := if r < zskp r s then r else r - 1) _ (by have := zskp_lt (i := r) hs; split <;> omega) (fun q hq => ?_)]
        · omega
        · rw [(zskp_eq hne).mpr rfl, h q (by omega)]
          exact if_neg (by omega)
    · have e0 : A r (m + 1) = 0 := (h (m + 1) (by omega)).trans (if_neg (fun z => e (Eq.symm z)))
      have e1 : zdet (m + 1) (fun p q => A (zskp r p) (zskp c q)) = zS (m + 1) (fun s => zsg m s * A (zskp r s) (m + 1) * zdet m (fun p q => A (zskp r (zskp s p)) (zskp c q))) := by
        rw [zdet_s]
        exact zS_cong (fun s _ => by rw [show zskp c m = m + 1 by unfold zskp; split <;> omega])
      rw [e0, e1, ← zS_mul, Int.mul_zero, Int.zero_mul, Int.zero_add]
      refine zS_cong (fun s hs => ?_)
      have hne : ¬ zskp r s = r := zskp_ne r s
      have hlt := zskp_lt (i := r) hs
      rw [zdet_unit (n := m) (fun p q => A (zskp (zskp r s) p) q) (r := if r < zskp r s then r else r - 1) (c := c) (by split <;> omega) (by omega) (fun q hq => by rw [(zskp_eq hne).mpr rfl]; exact h q (by omega))]
      have e2 : zdet m (fun p q => A (zskp (zskp r s) (zskp (if r < zskp r s then r else r - 1) p)) (zskp c q)) = zdet m (fun p q => A (zskp r (zskp s p)) (zskp c q)) := zdet_cg (fun p q _ _ => by rw [zskp_2 rfl rfl])
      rw [e2]
      have e3 := zsg_2 (c := c) hs hr (l := zskp r s) rfl (r2 := if r < zskp r s then r else r - 1) rfl
      generalize zdet m (fun p q => A (zskp r (zskp s p)) (zskp c q)) = g1
      generalize A (zskp r s) (m + 1) = g2
      generalize zsg (m + 1) (zskp r s) = g3 at *
      generalize zsg ((if r < zskp r s then r else r - 1) + c) 0 = g4 at *
      generalize zsg (r + c) 0 = g5 at *
      generalize zsg m s = g6 at *
      have e4 : g3 * g2 * (g4 * g1) = (g3 * g4) * (g2 * g1) := by grind
      rw [e4, e3]
      grind
def zVl (A : Nat → Nat → Int) (k i j : Nat) : Int := zdet k (fun p q => if q = i then A p j else A p q)
def zuf (A : Nat → Nat → Int) (k i l : Nat) : Int := zdet k (zrw A l (zunt i))
theorem zuf_col {A : Nat → Nat → Int} {k i j l : Nat} (hi : i < k) (hl : l < k) : zdet k (zrw (fun p q => if q = i then A p j else A p q) l (zunt i)) = zuf A k i l := by
  obtain ⟨m, rfl⟩ : ∃ m, k = m + 1 := ⟨k - 1, by omega⟩
  rw [zuf, zdet_unit (r := l) (c := i) _ hl hi (fun q _ => zrw_r _ _ _ _), zdet_unit (r := l) (c := i) _ hl hi (fun q _ => zrw_r _ _ _ _)]
  congr 1
  exact zdet_cg (fun p q _ _ => by
    rw [zrw_n _ _ _ (zskp_ne l p), zrw_n _ _ _ (zskp_ne l p), if_neg (zskp_ne i q)])
theorem zuf_min {A : Nat → Nat → Int} {u i : Nat} (hi : i < u) : zuf A u i i = zMin A u i := by
  obtain ⟨m, rfl⟩ : ∃ m, u = m + 1 := ⟨u - 1, by omega⟩
  rw [zuf, zdet_unit (r := i) (c := i) _ hi hi (fun q _ => zrw_r _ _ _ _), zMin]
  have e : zsg (i + i) 0 = 1 := by unfold zsg; rw [if_pos (by omega)]
  rw [e, Int.one_mul]
  exact zdet_cg (fun p q _ _ => zrw_n _ _ _ (zskp_ne i p))
theorem zvl_1 {A : Nat → Nat → Int} {k i : Nat} {N : Int} {y : Nat → Int} (hY : ∀ q, q < k → zS k (fun l => y l * A l q) = if q = i then N else 0) {l : Nat} (hl : l < k) : y l * zdet k A = N * zuf A k i l := by
  rw [← zdet_comb A hl y]
  have e : zdet k (zrw A l (fun q => zS k (fun l => y l * A l q))) = zdet k (zrw A l (fun q => N * zunt i q + 0 * zunt i q)) := zdet_cg (fun p q _ hq => by
    by_cases e2 : p = l
    · subst e2
      rw [zrw_r, zrw_r, hY q hq]
      unfold zunt
      split <;> omega
    · rw [zrw_n _ _ _ e2, zrw_n _ _ _ e2])
  rw [e, zdet_lin A l _ _ N 0 hl, zuf]
  omega
theorem zvl_2 {A : Nat → Nat → Int} {k i : Nat} {N : Int} {y : Nat → Int} (hi : i < k) (hN : ¬ N = 0) (hY : ∀ q, q < k → zS k (fun l => y l * A l q) = if q = i then N else 0) (j : Nat) : N * zVl A k i j = zdet k A * zS k (fun l => y l * A l j) := by
  have h1 : ∀ l, l < k → y l * zVl A k i j = zS k (fun l => y l * A l j) * zuf A k i l := by
    intro l hl
    rw [zVl, ← zdet_comb (fun p q => if q = i then A p j else A p q) hl y]
    have e : zdet k (zrw (fun p q => if q = i then A p j else A p q) l (fun q => zS k (fun l => y l * if q = i then A l j else A l q))) = zdet k (zrw (fun p q => if q = i then A p j else A p q) l (fun q => zS k (fun l => y l * A l j) * zunt i q + 0 * zunt i q)) := zdet_cg (fun p q _ hq => by
      by_cases e2 : p = l
      · subst e2
        rw [zrw_r, zrw_r]
        unfold zunt
        by_cases e3 : q = i
        · simp only [if_pos e3]
          omega
        · simp only [if_neg e3]
          rw [hY q hq, if_neg e3]
          omega
      · rw [zrw_n _ _ _ e2, zrw_n _ _ _ e2])
    rw [e, zdet_lin _ l _ _ _ 0 hl, zuf_col hi hl]
    omega
  have hN2 : ¬ zS k (fun l => y l * A l i) = 0 := by rw [hY i hi, if_pos rfl]; exact hN
  obtain ⟨l, hl, hne⟩ := zS_ex hN2
  have hy : ¬ y l = 0 := fun z => hne (by rw [z]; omega)
  have h2 := h1 l hl
  have h3 := zvl_1 hY hl
  refine Int.eq_of_mul_eq_mul_left hy ?_
  generalize zS k (fun l => y l * A l j) = s1 at *
  grind
def zP (A : Nat → Nat → Int) (k : Nat) : Prop := ∀ i, i < k → (∀ j, zVl A k i j = zS k (fun l => zuf A k i l * A l j)) ∧ ∀ j, j < k → zVl A k i j = if j = i then zdet k A else 0
section ZPS
variable {A : Nat → Nat → Int} {k : Nat}
theorem zP_y (hd : ∀ j, j ≤ k + 1 → ¬ zdet j A = 0) (hP : zP A k) {i : Nat} (hi : i < k) (q : Nat) : zS (k + 1) (fun l => (if l < k then zdet (k + 1) A * zuf A k i l - zVl A k i k * zco A k k l else -(zVl A k i k * zdet k A)) * A l q) = zdet (k + 1) A * zVl A k i q - zVl A k i k * zm A k k q := by
  rw [zS, if_neg (Nat.lt_irrefl k)]
  have e1 : zS k (fun l => (if l < k then zdet (k + 1) A * zuf A k i l - zVl A k i k * zco A k k l else -(zVl A k i k * zdet k A)) * A l q) = zdet (k + 1) A * zS k (fun l => zuf A k i l * A l q) + -(zVl A k i k) * zS k (fun l => zco A k k l * A l q) := by
    rw [← zS_lin]
    exact zS_cong (fun l hl => by rw [if_pos hl]; grind)
  rw [e1, (hP i hi).1 q, zm_lin A k k q]
  generalize zS k (fun l => zuf A k i l * A l q) = s1
  generalize zS k (fun l => zco A k k l * A l q) = s2
  generalize zVl A k i k = s3
  grind
theorem zP_yz (hd : ∀ j, j ≤ k + 1 → ¬ zdet j A = 0) (hP : zP A k) {i : Nat} (hi : i < k) (q : Nat) (hq : q < k + 1) : zS (k + 1) (fun l => (if l < k then zdet (k + 1) A * zuf A k i l - zVl A k i k * zco A k k l else -(zVl A k i k * zdet k A)) * A l q) = if q = i then zdet (k + 1) A * zdet k A else 0 := by
  rw [zP_y hd hP hi]
  by_cases e : q = k
  · subst e
    rw [zm_D, if_neg (by omega)]
    grind
  · rw [(hP i hi).2 q (by omega), zm_Vk k (fun j hj => hd j (by omega)) k q (by omega)]
    by_cases e2 : q = i
    · rw [if_pos e2, if_pos e2]; omega
    · rw [if_neg e2, if_neg e2]; omega
theorem zP_v (hd : ∀ j, j ≤ k + 1 → ¬ zdet j A = 0) (hP : zP A k) {i : Nat} (hi : i < k) (j : Nat) : zdet k A * zVl A (k + 1) i j = zdet (k + 1) A * zVl A k i j - zVl A k i k * zm A k k j := by
  have hE := hd (k + 1) (Nat.le_refl _)
  have hD := hd k (by omega)
  have h := zvl_2 (k := k + 1) (i := i) (by omega) (fun z => by rcases Int.mul_eq_zero.mp z with z | z; exact hE z; exact hD z) (zP_yz hd hP hi) j
  rw [zP_y hd hP hi] at h
  refine Int.eq_of_mul_eq_mul_left hE ?_
  rw [← Int.mul_assoc]
  exact h
theorem zP_u (hd : ∀ j, j ≤ k + 1 → ¬ zdet j A = 0) (hP : zP A k) {i : Nat} (hi : i < k) {l : Nat} (hl : l < k + 1) : zdet k A * zuf A (k + 1) i l = if l < k then zdet (k + 1) A * zuf A k i l - zVl A k i k * zco A k k l else -(zVl A k i k * zdet k A) := by
  have hE := hd (k + 1) (Nat.le_refl _)
  have h := zvl_1 (k := k + 1) (i := i) (zP_yz hd hP hi) hl
  refine Int.eq_of_mul_eq_mul_left hE ?_
  rw [← Int.mul_assoc, ← h, Int.mul_comm]
theorem zP_uk (hd : ∀ j, j ≤ k + 1 → ¬ zdet j A = 0) (hP : zP A k) {i : Nat} (hi : i < k) : zuf A (k + 1) i k = -zVl A k i k := by
  have h := zP_u hd hP hi (l := k) (Nat.lt_succ_self k)
  rw [if_neg (Nat.lt_irrefl k)] at h
  refine Int.eq_of_mul_eq_mul_left (hd k (by omega)) ?_
  rw [h]
  grind
theorem zP_ky (q : Nat) : zS (k + 1) (fun l => (if l < k then zco A k k l else zdet k A) * A l q) = zm A k k q := by
  rw [zS, if_neg (Nat.lt_irrefl k), zm_lin, zS_cong (g := fun l => zco A k k l * A l q) (fun l hl => by rw [if_pos hl])]
  omega
theorem zP_kz (hd : ∀ j, j ≤ k + 1 → ¬ zdet j A = 0) (q : Nat) (hq : q < k + 1) : zS (k + 1) (fun l => (if l < k then zco A k k l else zdet k A) * A l q) = if q = k then zdet (k + 1) A else 0 := by
  rw [zP_ky]
  by_cases e : q = k
  · rw [if_pos e, e, zm_D]
  · rw [if_neg e, zm_Vk k (fun j hj => hd j (by omega)) k q (by omega)]
theorem zP_kv (hd : ∀ j, j ≤ k + 1 → ¬ zdet j A = 0) (j : Nat) : zVl A (k + 1) k j = zm A k k j := by
  have hE := hd (k + 1) (Nat.le_refl _)
  have h := zvl_2 (k := k + 1) (i := k) (Nat.lt_succ_self k) hE (zP_kz hd) j
  rw [zP_ky] at h
  exact Int.eq_of_mul_eq_mul_left hE h
theorem zP_ku (hd : ∀ j, j ≤ k + 1 → ¬ zdet j A = 0) {l : Nat} (hl : l < k + 1) : zuf A (k + 1) k l = if l < k then zco A k k l else zdet k A := by
  have hE := hd (k + 1) (Nat.le_refl _)
  have h := zvl_1 (k := k + 1) (i := k) (zP_kz hd) hl
  refine Int.eq_of_mul_eq_mul_left hE ?_
  rw [← h, Int.mul_comm]
theorem zP_s (hd : ∀ j, j ≤ k + 1 → ¬ zdet j A = 0) (hP : zP A k) : zP A (k + 1) := by
  intro i hi
  have hD := hd k (by omega)
  by_cases e : i = k
  · subst e
    refine ⟨fun j => ?_, fun j hj => ?_⟩
    · rw [zP_kv hd, ← zP_ky]
      exact zS_cong (fun l hl => by rw [zP_ku hd hl])
    · rw [zP_kv hd, ← zP_ky, zP_kz hd j hj]
  · refine ⟨fun j => ?_, fun j hj => ?_⟩
    · refine Int.eq_of_mul_eq_mul_left hD ?_
      rw [zP_v hd hP (by omega), ← zP_y hd hP (by omega), ← zS_mul]
      exact zS_cong (fun l hl => by rw [← Int.mul_assoc, zP_u hd hP (by omega) hl])
    · refine Int.eq_of_mul_eq_mul_left hD ?_
      rw [zP_v hd hP (by omega), ← zP_y hd hP (by omega), zP_yz hd hP (by omega) j hj]
      split <;> grind
end ZPS
theorem zP_all {A : Nat → Nat → Int} : ∀ {k : Nat}, (∀ j, j ≤ k → ¬ zdet j A = 0) → zP A k
  | 0, _ => fun i hi => absurd hi (Nat.not_lt_zero _)
  | k + 1, hd => zP_s hd (zP_all (fun j hj => hd j (by omega)))
theorem zco_v {A : Nat → Nat → Int} {k : Nat} (hs : ∀ i j, A i j = A j i) (hd : ∀ j, j ≤ k → ¬ zdet j A = 0) {l : Nat} (hl : l < k) : zco A k k l = -zVl A k l k := by
  have hP := zP_all hd
  have hV := zm_Vk k hd
  have h1 : zdet k A * zVl A k l k = -(zco A k k l * zdet k A) := by
    have e1 : ∀ m, m < k → zdet k A * A m k = -zS k (fun t => zco A k k t * A t m) := fun m hm => by
      have h := hV k m hm
      rw [zm_lin] at h
      rw [hs m k]
      omega
    have e2 : zdet k A * zVl A k l k = -zS k (fun m => zS k (fun t => zuf A k l m * (zco A k k t * A t m))) := by
      rw [(hP l hl).1 k, ← zS_mul]
      have e3 : -zS k (fun m => zS k (fun t => zuf A k l m * (zco A k k t * A t m))) = -1 * zS k (fun m => zS k (fun t => zuf A k l m * (zco A k k t * A t m))) := by omega
      rw [e3, ← zS_mul]
      refine zS_cong (fun m hm => ?_)
      rw [zS_mul]
      have := e1 m hm
      grind
    rw [e2, zS_swap (fun m t => zuf A k l m * (zco A k k t * A t m)) k k]
    have e4 : zS k (fun t => zS k (fun m => zuf A k l m * (zco A k k t * A t m))) = zco A k k l * zdet k A := by
      rw [zS_one hl (fun t ht htl => ?_)]
      · have e5 : zS k (fun m => zuf A k l m * (zco A k k l * A l m)) = zco A k k l * zVl A k l l := by
          rw [(hP l hl).1 l, ← zS_mul]
          exact zS_cong (fun m _ => by rw [hs l m]; grind)
        rw [e5, (hP l hl).2 l hl, if_pos rfl]
      · have e5 : zS k (fun m => zuf A k l m * (zco A k k t * A t m)) = zco A k k t * zVl A k l t := by
          rw [(hP l hl).1 t, ← zS_mul]
          exact zS_cong (fun m _ => by rw [hs t m]; grind)
        rw [e5, (hP l hl).2 t ht, if_neg htl]
        omega
    rw [e4]
  refine Int.eq_of_mul_eq_mul_left (hd k (Nat.le_refl _)) ?_
  grind
