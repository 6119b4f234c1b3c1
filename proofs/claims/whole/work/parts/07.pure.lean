/-! plain words: a drift told, a room, the numbers that a weighing lays out -/
def zdr (d : Bool) : Int32 := if d then nI 1 else nI 0
def zunk (w : Nat) (d : Bool) : Nat := if d then w + 1 else w
def zsgd (p : Nat) : Int := if p = 2 then -1 else (p : Int)
/-- a code of w weights -/
def zcode (w c : Nat) : Prop := c < 10 ^ (w + 1) ∧ ∀ k, k ≤ w → c / 10 ^ k % 10 ≤ 2
def zdig (c w i : Nat) : Nat := c / 10 ^ (w - 1 - i) % 10
/-- what a weighing t of code c and reading r lays out at i -/
def zLn (w mm : Nat) (d : Bool) (c : Nat) (r : Int) (t i : Nat) : Int := if i < w then zsgd (zdig c w i) else if d = true ∧ i = w then (t : Int) else r - zsgd (c / 10 ^ w) * mm
section ZD
variable {E : zE} {x : zX} {cc : ByteArray} {own : String} {nL : Nat} {R : Room} {pc : Nat} {lv : List (Nat × Value)} {st : List Value} {M : zM}
theorem z_if_eq_d (hx : zOk E x cc own nL R) {b : Bool} {off : Int} {tgt : Nat} (d : decode cc pc = .ok (.ifCond .eq off, 3)) (ht : (pc : Int) + off = (tgt : Int)) (kt : b = false → zJ E x tgt lv st M) (kf : b = true → zJ E x (pc + 3) lv st M) : zJ E x pc lv (.int (zdr b) :: st) M := z_if_eq hx d ht (fun q => kt (by cases b; rfl; exact absurd q (by decide +kernel))) (fun q => kf (by cases b; exact absurd (by decide +kernel) q; rfl))
theorem z_if_ne_d (hx : zOk E x cc own nL R) {b : Bool} {off : Int} {tgt : Nat} (d : decode cc pc = .ok (.ifCond .ne off, 3)) (ht : (pc : Int) + off = (tgt : Int)) (kt : b = true → zJ E x tgt lv st M) (kf : b = false → zJ E x (pc + 3) lv st M) : zJ E x pc lv (.int (zdr b) :: st) M := z_if_ne hx d ht (fun q => kt (by cases b; exact absurd (by decide +kernel) q; rfl)) (fun q => kf (by cases b; rfl; exact absurd q (by decide +kernel)))
end ZD
theorem zdr_01 (d : Bool) : zdr d = 0 ∨ zdr d = 1 := by cases d; exact Or.inl (by decide +kernel); exact Or.inr (by decide +kernel)
theorem zix {x : Int32} {n : Nat} (hn : n < 2 ^ 31) (h1 : ¬ x < 0) (h2 : ¬ nI n ≤ x) : ∃ j : Nat, j < n ∧ x = nI j := by
  rcases pk_ix x hn with h | h | h
  · exact absurd h h1
  · exact absurd h h2
  · exact h
/-- reading a memory that was written -/
theorem zg_putI (M : zM) (c k : Nat) (v : Int32) (c' k' : Nat) : (zputI M c k v).1 c' k' = if c' = c ∧ k' = k then v else M.1 c' k' := by
  unfold zputI va_up upd
  by_cases h : c' = c
  · subst h
    by_cases h2 : k' = k <;> simp [h2]
  · simp [h]
theorem zg_putI_J (M : zM) (c k : Nat) (v : Int32) : (zputI M c k v).2 = M.2 := rfl
theorem zg_putJ (M : zM) (c k : Nat) (v : Int64) (c' k' : Nat) : (zputJ M c k v).2 c' k' = if c' = c ∧ k' = k then v else M.2 c' k' := by
  unfold zputJ va_up vp_updL
  by_cases h : c' = c
  · subst h
    by_cases h2 : k' = k <;> simp [h2]
  · simp [h]
theorem zg_putJ_I (M : zM) (c k : Nat) (v : Int64) : (zputJ M c k v).1 = M.1 := rfl
theorem zg_setI (M : zM) (c : Nat) (g : Nat → Int32) (c' : Nat) : (zsetI M c g).1 c' = if c' = c then g else M.1 c' := rfl
theorem zg_setI_J (M : zM) (c : Nat) (g : Nat → Int32) : (zsetI M c g).2 = M.2 := rfl
theorem zg_setJ (M : zM) (c : Nat) (h : Nat → Int64) (c' : Nat) : (zsetJ M c h).2 c' = if c' = c then h else M.2 c' := rfl
theorem zg_setJ_I (M : zM) (c : Nat) (h : Nat → Int64) : (zsetJ M c h).1 = M.1 := rfl
theorem zputI_set (M : zM) (c k : Nat) (g : Nat → Int32) (v : Int32) : zputI (zsetI M c g) c k v = zsetI M c (upd g k v) := by
  unfold zputI zsetI
  refine Prod.ext ?_ rfl
  funext i
  by_cases h : i = c <;> simp [va_up, h]
theorem zputJ_set (M : zM) (c k : Nat) (g : Nat → Int64) (v : Int64) : zputJ (zsetJ M c g) c k v = zsetJ M c (vp_updL g k v) := by
  unfold zputJ zsetJ
  refine Prod.ext rfl ?_
  funext i
  by_cases h : i = c <;> simp [va_up, h]
theorem zsetI_self (M : zM) (c : Nat) : zsetI M c (M.1 c) = M := by unfold zsetI; rw [zup_self]
theorem zsetJ_self (M : zM) (c : Nat) : zsetJ M c (M.2 c) = M := by unfold zsetJ; rw [zup_self]
/-- nothing is changed but in cells of cs -/
def zfr (cs : Nat → Prop) (M M2 : zM) : Prop := ∀ c, ¬ cs c → M2.1 c = M.1 c ∧ M2.2 c = M.2 c
theorem zfr_rf (cs : Nat → Prop) (M : zM) : zfr cs M M := fun _ _ => ⟨rfl, rfl⟩
theorem zfr_tr {cs : Nat → Prop} {M M1 M2 : zM} (h1 : zfr cs M M1) (h2 : zfr cs M1 M2) : zfr cs M M2 := fun c hc => ⟨((h2 c hc).1).trans (h1 c hc).1, ((h2 c hc).2).trans (h1 c hc).2⟩
theorem zfr_w {cs cs2 : Nat → Prop} {M M1 : zM} (h1 : zfr cs M M1) (h : ∀ c, cs c → cs2 c) : zfr cs2 M M1 := fun c hc => h1 c (fun q => hc (h c q))
theorem zfr_putI {cs : Nat → Prop} {M : zM} {c k : Nat} {v : Int32} (h : cs c) : zfr cs M (zputI M c k v) := fun c' hc => ⟨by
  have e : ¬ c' = c := fun q => hc (q ▸ h)
  simp [zputI, va_up, e], rfl⟩
theorem zfr_putJ {cs : Nat → Prop} {M : zM} {c k : Nat} {v : Int64} (h : cs c) : zfr cs M (zputJ M c k v) := fun c' hc => ⟨rfl, by
  have e : ¬ c' = c := fun q => hc (q ▸ h)
  simp [zputJ, va_up, e]⟩
theorem zfr_setI {cs : Nat → Prop} {M : zM} {c : Nat} {g : Nat → Int32} (h : cs c) : zfr cs M (zsetI M c g) := fun c' hc => ⟨by
  have e : ¬ c' = c := fun q => hc (q ▸ h)
  simp [zsetI, va_up, e], rfl⟩
theorem zfr_setJ {cs : Nat → Prop} {M : zM} {c : Nat} {g : Nat → Int64} (h : cs c) : zfr cs M (zsetJ M c g) := fun c' hc => ⟨rfl, by
  have e : ¬ c' = c := fun q => hc (q ▸ h)
  simp [zsetJ, va_up, e]⟩
section ZR
variable {M : zM} {c k c' k' : Nat} {v r : Int32} {u q : Int64} {g : Nat → Int32} {h : Nat → Int64}
theorem zskI (h : ¬ c' = c) (e : M.1 c' k' = r) : (zputI M c k v).1 c' k' = r := by rw [zg_putI, if_neg (fun z => h z.1)]; exact e
theorem zskK (h : ¬ k' = k) (e : M.1 c' k' = r) : (zputI M c k v).1 c' k' = r := by rw [zg_putI, if_neg (fun z => h z.2)]; exact e
theorem zhtI : (zputI M c k v).1 c k = v := by rw [zg_putI, if_pos ⟨rfl, rfl⟩]
theorem zskSI (h : ¬ c' = c) (e : M.1 c' k' = r) : (zsetI M c g).1 c' k' = r := by rw [zg_setI, if_neg h]; exact e
theorem zhtSI : (zsetI M c g).1 c k = g k := by rw [zg_setI, if_pos rfl]
theorem zskJ (h : ¬ c' = c) (e : M.2 c' k' = q) : (zputJ M c k u).2 c' k' = q := by rw [zg_putJ, if_neg (fun z => h z.1)]; exact e
theorem zskKJ (h : ¬ k' = k) (e : M.2 c' k' = q) : (zputJ M c k u).2 c' k' = q := by rw [zg_putJ, if_neg (fun z => h z.2)]; exact e
theorem zhtJ : (zputJ M c k u).2 c k = u := by rw [zg_putJ, if_pos ⟨rfl, rfl⟩]
theorem zskSJ (hh : ¬ c' = c) (e : M.2 c' k' = q) : (zsetJ M c h).2 c' k' = q := by rw [zg_setJ, if_neg hh]; exact e
theorem zhtSJ : (zsetJ M c h).2 c k = h k := by rw [zg_setJ, if_pos rfl]
theorem zskJI (e : M.1 c' k' = r) : (zputJ M c k u).1 c' k' = r := e
theorem zskSJI (e : M.1 c' k' = r) : (zsetJ M c h).1 c' k' = r := e
theorem zskIJ (e : M.2 c' k' = q) : (zputI M c k v).2 c' k' = q := e
theorem zskSIJ (e : M.2 c' k' = q) : (zsetI M c g).2 c' k' = q := e
end ZR
/-- a sum over the first n -/
def zS : Nat → (Nat → Int) → Int
  | 0, _ => 0
  | n + 1, f => zS n f + f n
theorem zS_cong {f g : Nat → Int} : ∀ {n : Nat}, (∀ k, k < n → f k = g k) → zS n f = zS n g
  | 0, _ => rfl
  | n + 1, h => by rw [zS, zS, zS_cong (fun k hk => h k (Nat.lt_succ_of_lt hk)), h n (Nat.lt_succ_self n)]
/-- cell a of M holds a room of w weights, the master mm, n weighings of codes cd and readings rd -/
def zRm (M : zM) (a w n mm : Nat) (cd : Nat → Nat) (rd : Nat → Int) : Prop := M.1 a 0 = nI w ∧ (1 ≤ w ∧ w ≤ 4) ∧ M.1 a 1 = nI mm ∧ mm ≤ 99 ∧ M.1 a 2 = nI n ∧ n ≤ 8 ∧ ∀ t, t < n → M.1 (a + 1) t = nI (cd t) ∧ cd t < 100000 ∧ zcode w (cd t) ∧ M.1 (a + 2) t = Int32.ofInt (rd t) ∧ -1000 ≤ rd t ∧ rd t ≤ 1000
theorem zRm_fr {cs : Nat → Prop} {M N : zM} {a w n mm : Nat} {cd : Nat → Nat} {rd : Nat → Int} (h : zRm M a w n mm cd rd) (hf : zfr cs M N) (h0 : ¬ cs a) (h1 : ¬ cs (a + 1)) (h2 : ¬ cs (a + 2)) : zRm N a w n mm cd rd := by
  obtain ⟨q1, q2, q3, q4, q5, q6, q7⟩ := h
  refine ⟨by rw [(hf a h0).1]; exact q1, q2, by rw [(hf a h0).1]; exact q3, q4, by rw [(hf a h0).1]; exact q5, q6, fun t ht => ?_⟩
  obtain ⟨r1, r2, r3, r4, r5⟩ := q7 t ht
  exact ⟨by rw [(hf _ h1).1]; exact r1, r2, r3, by rw [(hf _ h2).1]; exact r4, r5⟩
