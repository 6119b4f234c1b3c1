/-! class and reference side by side: what one leaves of the other; readings never beyond 999 -/
theorem zMs_fC {M M2 : zM} {σ : zSt} (h : zMs M σ) (hf : zfC M M2) : zMs M2 σ := by
  obtain ⟨⟨a1, a2⟩, a3, a4, ⟨a5, a6⟩, a7, a8⟩ := h
  have e32 := hf 32 (by omega)
  refine ⟨⟨by rw [e32.1]; exact a1, ?_⟩, by rw [e32.1]; exact a3, ?_, ⟨by rw [e32.1]; exact a5, ?_⟩, ?_, by rw [e32.2]; exact a8⟩
  · rw [(hf 33 (by omega)).1]; exact a2
  · rw [(hf 35 (by omega)).1]; exact a4
  · rw [(hf 38 (by omega)).1]; exact a6
  · rw [(hf 39 (by omega)).1, (hf 40 (by omega)).1]; exact a7
theorem zCs_fN {M M2 : zM} {σ : zSt} (h : zCs M σ) (hf : zfN M M2) : zCs M2 σ := by
  obtain ⟨hT, hH, hA, hS, hD, hO⟩ := h
  exact ⟨zTx_fr hT hf (by omega) (by omega), zHr_fr hH hf (by omega) (by omega) (by omega), zAc_fr hA hf (by omega) (fun c z1 z2 => by omega), zSl_fr hS hf (by omega) (fun c z1 z2 => by omega), by rw [(hf 0 (by omega)).2]; exact hD, hO⟩
def z9 (r : zRo) : Prop := ∀ t, t < r.2.1 → -999 ≤ r.2.2.2.2 t ∧ r.2.2.2.2 t ≤ 999
def z99 (σ : zSt) : Prop := z9 σ.2.2.1 ∧ (∀ i, i < σ.2.2.2.2.1 → z9 (σ.2.2.2.1 i)) ∧ ∀ k q, k < 2 → σ.2.2.2.2.2.1 k = some q → z9 q
theorem z99_act {σ : zSt} {q : zRo} (h : z99 σ) (hs : σ.2.2.2.2.1 ≤ 14) (hq : z9 q) : z99 (zact σ q) := by
  refine ⟨hq, fun i hi => ?_, h.2.2⟩
  have hi2 : i < (zpush σ.2.2.2.1 σ.2.2.2.2.1 σ.2.2.1).2 := hi
  show z9 ((zpush σ.2.2.2.1 σ.2.2.2.2.1 σ.2.2.1).1 i)
  unfold zpush at hi2 ⊢
  by_cases e : σ.2.2.2.2.1 = 14
  · rw [if_pos e] at hi2 ⊢
    show z9 (if i < 13 then σ.2.2.2.1 (i + 1) else σ.2.2.1)
    by_cases e2 : i < 13
    · rw [if_pos e2]
      exact h.2.1 (i + 1) (by omega)
    · rw [if_neg e2]
      exact h.1
  · rw [if_neg e] at hi2 ⊢
    have hi3 : i < σ.2.2.2.2.1 + 1 := hi2
    show z9 (va_up σ.2.2.2.1 σ.2.2.2.2.1 σ.2.2.1 i)
    by_cases e2 : i = σ.2.2.2.2.1
    · rw [e2, zup_e]
      exact h.1
    · rw [zup_n _ _ e2]
      exact h.2.1 i (by omega)
theorem zisR_b {z : Int32} (h : zisR z = true) : -999 ≤ z.toInt ∧ z.toInt ≤ 999 := by
  have h2 := of_decide_eq_true h
  have e2 : (-999 : Int32).toInt = -999 := by decide +kernel
  have e3 : (999 : Int32).toInt = 999 := by decide +kernel
  rw [Int32.le_iff_toInt_le, Int32.le_iff_toInt_le, e2, e3] at h2
  exact h2
theorem z9_up {n : Nat} {rd : Nat → Int} {j : Nat} {z : Int} {m : Nat} (h : ∀ t, t < n → -999 ≤ rd t ∧ rd t ≤ 999) (hz : -999 ≤ z ∧ z ≤ 999) (hm : ∀ t, t < m → t < n ∨ t = j) : ∀ t, t < m → -999 ≤ va_up rd j z t ∧ va_up rd j z t ≤ 999 := fun t ht => by
  by_cases e : t = j
  · rw [e, zup_e]
    exact hz
  · rw [zup_n _ _ e]
    exact h t ((hm t ht).resolve_right e)
theorem z99_write {σ : zSt} (h : z99 σ) (l : Int32) : z99 (zop_write σ l).2 := by
  unfold zop_write
  split
  · exact h
  · split
    · exact h
    · exact h
theorem z99_wipe {σ : zSt} (h : z99 σ) : z99 (zop_wipe σ).2 := h
theorem z99_seed {σ : zSt} (h : z99 σ) (z : Int64) : z99 (zop_seed σ z).2 := h
theorem z99_drawn {σ : zSt} (h : z99 σ) (m : Int32) : z99 (zop_drawn σ m).2 := by
  unfold zop_drawn
  split
  · exact h
  · exact h
theorem z99_weigh {σ : zSt} (h : z99 σ) (hk : zSk σ) (c z : Int32) : z99 (zop_weigh σ c z).2 := by
  unfold zop_weigh
  by_cases e : (zisC σ.2.2.1.1 c && zisR z) = true
  · rw [if_pos e]
    split
    · exact h
    · refine z99_act h hk.2.2.1 (z9_up h.1 (zisR_b ?_) (fun t ht => ?_))
      · rw [Bool.and_eq_true] at e
        exact e.2
      · have ht2 : t < σ.2.2.1.2.1 + 1 := ht
        omega
  · rw [if_neg e]
    exact h
theorem z99_take {σ : zSt} (h : z99 σ) (hk : zSk σ) (t : Int32) : z99 (zop_take σ t).2 := by
  unfold zop_take
  split
  · exact h
  · refine z99_act h hk.2.2.1 (fun k hk2 => ?_)
    have hk3 : k < σ.2.2.1.2.1 - 1 := hk2
    show -999 ≤ (if t.toNatClampNeg ≤ k then σ.2.2.1.2.2.2.2 (k + 1) else σ.2.2.1.2.2.2.2 k) ∧ (if t.toNatClampNeg ≤ k then σ.2.2.1.2.2.2.2 (k + 1) else σ.2.2.1.2.2.2.2 k) ≤ 999
    by_cases e : t.toNatClampNeg ≤ k
    · rw [if_pos e]
      exact h.1 (k + 1) (by omega)
    · rw [if_neg e]
      exact h.1 k (by omega)
theorem z99_swap {σ : zSt} (h : z99 σ) (hk : zSk σ) (t u : Int32) : z99 (zop_swap σ t u).2 := by
  unfold zop_swap
  by_cases e : (t < 0 ∨ nI σ.2.2.1.2.1 ≤ t) ∨ (u < 0 ∨ nI σ.2.2.1.2.1 ≤ u)
  · rw [if_pos e]
    exact h
  · rw [if_neg e]
    have h8 : σ.2.2.1.2.1 ≤ 8 := hk.1.2.2.1
    obtain ⟨i, hi, rfl⟩ := zix (n := σ.2.2.1.2.1) (by omega) (fun z => e (Or.inl (Or.inl z))) (fun z => e (Or.inl (Or.inr z)))
    obtain ⟨j, hj, rfl⟩ := zix (n := σ.2.2.1.2.1) (by omega) (fun z => e (Or.inr (Or.inl z))) (fun z => e (Or.inr (Or.inr z)))
    split
    · exact h
    · rw [nI_clamp (by omega), nI_clamp (by omega)]
      refine z99_act h hk.2.2.1 (fun k hk2 => ?_)
      show -999 ≤ zexch σ.2.2.1.2.2.2.2 i j k ∧ zexch σ.2.2.1.2.2.2.2 i j k ≤ 999
      unfold zexch
      split
      · exact h.1 i hi
      · split
        · exact h.1 j hj
        · exact h.1 k hk2
theorem z99_read {σ : zSt} (h : z99 σ) (hk : zSk σ) (t z : Int32) : z99 (zop_read σ t z).2 := by
  unfold zop_read
  split
  · exact h
  · by_cases e : zisR z = true
    · rw [if_pos e]
      exact z99_act h hk.2.2.1 (z9_up h.1 (zisR_b e) (fun t ht => Or.inl ht))
    · rw [if_neg e]
      exact h
theorem z99_master {σ : zSt} (h : z99 σ) (hk : zSk σ) (t : Int32) : z99 (zop_master σ t).2 := by
  unfold zop_master
  split
  · exact h
  · exact z99_act h hk.2.2.1 h.1
theorem z99_undo {σ : zSt} (h : z99 σ) : z99 (zop_undo σ).2 := by
  unfold zop_undo
  by_cases e : σ.2.2.2.2.1 = 0
  · rw [if_pos e]
    exact h
  · rw [if_neg e]
    refine ⟨h.2.1 _ (by omega), fun i hi => h.2.1 i ?_, h.2.2⟩
    have hi2 : i < σ.2.2.2.2.1 - 1 := hi
    omega
theorem z99_keep {σ : zSt} (h : z99 σ) (t : Int32) : z99 (zop_keep σ t).2 := by
  unfold zop_keep
  split
  · exact h
  · refine ⟨h.1, h.2.1, fun k q hk hq => ?_⟩
    have hq2 : va_up σ.2.2.2.2.2.1 t.toNatClampNeg (some σ.2.2.1) k = some q := hq
    by_cases e : k = t.toNatClampNeg
    · rw [e, zup_e] at hq2
      cases hq2
      exact h.1
    · rw [zup_n _ _ e] at hq2
      exact h.2.2 k q hk hq2
theorem z99_again {σ : zSt} (h : z99 σ) (t : Int32) : z99 (zop_again σ t).2 := by
  unfold zop_again
  by_cases e : t < 0 ∨ ¬ t < nI 2
  · rw [if_pos e]
    exact h
  · rw [if_neg e]
    obtain ⟨j, hj, rfl⟩ := zix (n := 2) (by decide) (fun z => e (Or.inl z)) (fun z => e (Or.inr (Int32.not_lt.mpr z)))
    rw [nI_clamp (by omega)]
    cases f : σ.2.2.2.2.2.1 j with
    | none => exact h
    | some q => exact ⟨h.2.2 j q hj f, fun i hi => absurd hi (Nat.not_lt_zero _), h.2.2⟩
theorem z99_room {σ : zSt} {n : Nat} (hl : σ.2.1 ≤ 90) (h : zTok σ.1 σ.2.1 n) : z99 (σ.1, σ.2.1, (zwt σ.1, n, zmmT σ.1, zcdT σ.1, zrdR σ.1), σ.2.2.2.1, 0, (fun _ => none), σ.2.2.2.2.2.2) := by
  refine ⟨fun t ht => ?_, fun i hi => absurd hi (Nat.not_lt_zero _), fun k q _ hq => by cases hq⟩
  have ht2 : t < n := ht
  have h1 := zTok_t h hl ht2
  have hf : ∀ i, zwt σ.1 + 3 ≤ i → i < zwt σ.1 + 6 → zfig (σ.1 (4 + t * (zwt σ.1 + 6) + i)) := fun i a b => zfit_f a b (h.2.2 _ (by omega))
  show -999 ≤ zrdR σ.1 t ∧ zrdR σ.1 t ≤ 999
  exact zrd_ab (by have := hf (zwt σ.1 + 3) (by omega) (by omega); rw [show 4 + t * (zwt σ.1 + 6) + zwt σ.1 + 2 + 1 = 4 + t * (zwt σ.1 + 6) + (zwt σ.1 + 3) by omega]; exact this) (by have := hf (zwt σ.1 + 4) (by omega) (by omega); rw [show 4 + t * (zwt σ.1 + 6) + zwt σ.1 + 2 + 2 = 4 + t * (zwt σ.1 + 6) + (zwt σ.1 + 4) by omega]; exact this) (by have := hf (zwt σ.1 + 5) (by omega) (by omega); rw [show 4 + t * (zwt σ.1 + 6) + zwt σ.1 + 2 + 3 = 4 + t * (zwt σ.1 + 6) + (zwt σ.1 + 5) by omega]; exact this)
/-! the start -/
def zr0 : zRo := (1, 0, 0, fun _ => 0, fun _ => 0)
def zσ0 : zSt := (fun _ => 0, 0, zr0, fun _ => zr0, 0, fun _ => none, 0)
theorem z99_0 : z99 zσ0 := ⟨fun t ht => absurd ht (Nat.not_lt_zero _), fun i hi => absurd hi (Nat.not_lt_zero _), fun k q _ hq => by cases hq⟩
theorem zCs_0 : zCs zM0 zσ0 := by
  refine ⟨⟨by decide +kernel, by decide, fun k hk => ⟨?_, Nat.zero_le _⟩⟩, ⟨by decide +kernel, by decide, by decide +kernel, by decide, by decide +kernel, by decide, fun t ht => absurd ht (Nat.not_lt_zero _)⟩, ⟨0, by decide, by decide +kernel, by decide +kernel, by decide, fun i hi => absurd hi (Nat.not_lt_zero _)⟩, fun k hk => Or.inl ⟨rfl, ?_⟩, by decide +kernel, fun i hi => absurd hi (Nat.not_lt_zero _), fun k q _ hq => by cases hq⟩
  · show (0 : Int32) = nI 0
    decide +kernel
  · show (0 : Int32) = nI 0
    decide +kernel
theorem zMs_0 : zMs zM0 zσ0 := by
  refine ⟨⟨by decide +kernel, fun k hk => ?_⟩, by decide +kernel, ⟨by decide +kernel, by decide +kernel, fun t ht => absurd ht (Nat.not_lt_zero _)⟩, ⟨by decide +kernel, fun i hi => absurd hi (Nat.not_lt_zero _)⟩, fun k hk => Or.inl ⟨rfl, ?_⟩, by decide +kernel⟩
  · show (0 : Int32) = nI 0
    decide +kernel
  · show (0 : Int32) = nI 0
    decide +kernel
theorem zwd_of {l : Launch} {D : va_G} {cy : Nat → ClassId} {s0 : Nat} {f : Nat → va_E} {H : Heap} (h : zHp (zE0 l D cy s0) s0 100 f H) (hf : ∀ i, i < 100 → f i = zTg cy s0 i) : va_P D vwCl (zwd (zE0 l D cy s0) zM0) H := fun k q hk => by
  have hl : k < 100 := by
    have := (List.getElem?_eq_some_iff.mp hk).1
    rwa [zwd_len] at this
  rw [zwd_get _ _ hl] at hk
  cases hk
  obtain ⟨h1, h2⟩ := zin_of k hl
  have h3 := h.2 (zof k) h2
  rw [hf _ h2] at h3
  unfold zTg at h3
  rw [h1] at h3
  exact h3
theorem zI_0 (l : Launch) (D : va_G) (cy : Nat → ClassId) (s0 : Nat) : zI (zE0 l D cy s0) := fun i j hi hj e => by
  have e2 : s0 + zof i = s0 + zof j := e
  have e3 : zof i = zof j := by omega
  rw [← (zin_of i hi).1, ← (zin_of j hj).1, e3]
