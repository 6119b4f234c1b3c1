/-! the cells in the order in which they are made -/
def zin (i : Nat) : Nat := if i < 3 then i else if i < 9 then i + 43 else if i < 11 then i - 5 else if i < 53 then i + 41 else if i = 53 then 6 else if i = 54 then 3 else if i < 57 then i - 48 else if i < 63 then i - 42 else if i = 63 then 9 else if i < 70 then i - 43 else if i < 73 then i - 60 else if i < 78 then i - 46 else if i < 80 then i - 65 else if i < 86 then i + 14 else i - 54
def zof (c : Nat) : Nat := if c < 3 then c else if c = 3 then 54 else if c < 6 then c + 5 else if c = 6 then 53 else if c < 9 then c + 48 else if c = 9 then 63 else if c < 13 then c + 60 else if c < 15 then c + 65 else if c < 21 then c + 42 else if c < 27 then c + 43 else if c < 32 then c + 46 else if c < 46 then c + 54 else if c < 52 then c - 43 else if c < 94 then c - 41 else c - 14
theorem zin_of : ∀ c, c < 100 → zin (zof c) = c ∧ zof c < 100 := by decide +kernel
def zad (s0 : Nat) : Nat → Nat := fun c => s0 + zof c
/-- the memory of new objects -/
def zM0 : zM := (fun c => if 46 ≤ c ∧ (c - 46) % 3 = 0 then (fun k => if k = 0 then 1 else 0) else if c = 7 then (fun k => if k = 4 ∨ k = 5 then 1 else 0) else if c = 32 then (fun k => if k = 4 ∨ k = 15 then 1 else 0) else fun _ => 0, fun c => if c = 7 then (fun k => if k = 6 then 1 else 0) else fun _ => 0)
abbrev zE0 (l : Launch) (D : va_G) (cy : Nat → ClassId) (s0 : Nat) : zE := (l, D, cy, zad s0)
def zTg (cy : Nat → ClassId) (s0 i : Nat) : va_E := zsh cy (zad s0) (zM0.1 (zin i)) (zM0.2 (zin i)) (zin i)
def zro3 (i : Nat) : Prop := (3 ≤ i ∧ i < 9 ∧ i % 3 = 0) ∨ (11 ≤ i ∧ i < 53 ∧ i % 3 = 2) ∨ (80 ≤ i ∧ i < 86 ∧ i % 3 = 2)
theorem zr_of : ∀ i, i < 86 → (3 ≤ i ∧ i < 9 ∧ i % 3 = 0) ∨ (11 ≤ i ∧ i < 53 ∧ i % 3 = 2) ∨ (80 ≤ i ∧ i < 86 ∧ i % 3 = 2) → (46 ≤ zin i ∧ (zin i - 46) % 3 = 0) ∧ zof (zin i + 1) = i + 1 ∧ zof (zin i + 2) = i + 2 ∧ zin (i + 1) = zin i + 1 ∧ zin (i + 2) = zin i + 2 := by decide +kernel
theorem zro3_lt {i : Nat} (h : zro3 i) : i < 86 := by unfold zro3 at h; omega
theorem zTg_room {i : Nat} (h : zro3 i) (cy : Nat → ClassId) (s0 : Nat) : zTg cy s0 i = .inr (3, [.int 1, .int 0, .int 0, .ref (s0 + (i + 1)), .ref (s0 + (i + 2))]) := by
  obtain ⟨h1, h2, h3, -⟩ := zr_of i (zro3_lt h) h
  unfold zTg zsh
  rw [if_pos h1.1, if_pos h1.2, show zM0.1 (zin i) = fun k => if k = 0 then 1 else 0 from if_pos h1]
  unfold zad
  rw [h2, h3]
  rfl
theorem zTg_r1 {i : Nat} (h : zro3 i) (cy : Nat → ClassId) (s0 : Nat) : zTg cy s0 (i + 1) = .inl (cy 0, 8, .inl (fun _ => 0)) := by
  obtain ⟨h1, -, -, h4, -⟩ := zr_of i (zro3_lt h) h
  unfold zTg zsh
  rw [h4, if_pos (by omega), if_neg (by omega), show zM0.1 (zin i + 1) = fun _ => 0 from (if_neg (by omega)).trans ((if_neg (by omega)).trans (if_neg (by omega)))]
theorem zTg_r2 {i : Nat} (h : zro3 i) (cy : Nat → ClassId) (s0 : Nat) : zTg cy s0 (i + 2) = .inl (cy 0, 8, .inl (fun _ => 0)) := by
  obtain ⟨h1, -, -, -, h4⟩ := zr_of i (zro3_lt h) h
  unfold zTg zsh
  rw [h4, if_pos (by omega), if_neg (by omega), show zM0.1 (zin i + 2) = fun _ => 0 from (if_neg (by omega)).trans ((if_neg (by omega)).trans (if_neg (by omega)))]
def zgt (cy : Nat → ClassId) (s0 : Nat) (f0 : Nat → va_E) (b : Nat) : Nat → va_E := fun i => if i < b then f0 i else zTg cy s0 i
def zf2 (cy : Nat → ClassId) (s0 : Nat) (f0 : Nat → va_E) (b : Nat) : Nat → va_E := fun i => if b ≤ i then zTg cy s0 i else f0 i
theorem zgt_ge {cy : Nat → ClassId} {s0 b i : Nat} {f0 : Nat → va_E} (h : b ≤ i) : zgt cy s0 f0 b i = zTg cy s0 i := if_neg (by omega)
theorem zup_2 {α : Type} (f : Nat → α) (b : Nat) (e e2 : α) : va_up (va_up f b e) b e2 = va_up f b e2 := by
  funext i
  by_cases h : i = b
  · rw [h, zup_e, zup_e]
  · rw [zup_n _ _ h, zup_n _ _ h, zup_n _ _ h]
theorem zst_0 {cy : Nat → ClassId} {s0 b : Nat} {f0 : Nat → va_E} {e : va_E} (h : f0 b = e) : ∀ i, i < b + 1 → f0 i = va_up (zgt cy s0 f0 b) b e i := fun i hi => by
  by_cases q : i = b
  · rw [q, zup_e]
    exact h
  · rw [zup_n _ _ q]
    exact Eq.symm (if_pos (by omega))
theorem zst_f {cy : Nat → ClassId} {s0 b : Nat} {f0 : Nat → va_E} {e : va_E} (h : zTg cy s0 b = e) (i : Nat) : va_up (zgt cy s0 f0 b) b e i = zf2 cy s0 f0 b i := by
  unfold zf2
  by_cases q : i = b
  · rw [q, zup_e, if_pos (Nat.le_refl _), h]
  · rw [zup_n _ _ q]
    unfold zgt
    by_cases q2 : i < b
    · rw [if_pos q2, if_neg (by omega)]
    · rw [if_neg q2, if_pos (by omega)]
section ZDR
variable {E : zE} {s0 n0 : Nat} {x : zX} {cc : ByteArray} {own : String} {nL : Nat} {R : Room} {pc : Nat} {lv : List (Nat × Value)} {st : List Value} {n : Nat} {f g : Nat → va_E} {cells slots : Nat}
theorem zd_put (hx : zOc E s0 n0 x cc own nL R) {b ci k N index : Nat} {C : String} {T : u_T} {ty0 : Nat → FieldType} {ty : FieldType} {fs fs2 : List Value} {v : Value} (hb : b < n) (hci : vwCl[ci]? = some (C, T, N)) (hin : ∀ w ∈ u_ws C T N, w ∈ zU) (hty : ∀ k, k < N → parseFieldDescriptor (T k).2.2.1 = some (ty0 k)) (hnm : ∀ a, a < N → ∀ b, b < N → a ≠ b → (T a).2.1 ≠ (T b).2.1) (hk : k < N) (hl : Cond.fieldLink own index (T k).1 (T k).2.1 (T k).2.2.1 ∈ zU) (hfin : (T k).2.2.2 = false) (hd : parseFieldDescriptor (T k).2.2.1 = some ty) (hn : narrow ty v = v) (hfit : fits ty v = true) (hlen : k < fs.length) (h2 : fs.set k v = fs2) (d : decode cc pc = .ok (.putfield index, 3)) (kk : zC E s0 x (pc + 3) lv st n (va_up g b (.inr (ci, fs2))) cells slots) : zC E s0 x pc lv (v :: .ref (s0 + b) :: st) n (va_up g b (.inr (ci, fs))) cells slots := zc_put hx hb (zup_e _ _ _) hci hin hty hnm hk hl hfin hd hn hfit hlen h2 d (by rw [zup_2]; exact kk)
theorem zd_putF (hx : zOc E s0 n0 x cc own nL R) (hin2 : x.2.2.2.2.2.2.2.1.name = "<init>") {b ci k N index : Nat} {C : String} {T : u_T} {ty0 : Nat → FieldType} {ty : FieldType} {fs fs2 : List Value} {v : Value} (hb : b < n) (hci : vwCl[ci]? = some (C, T, N)) (hin : ∀ w ∈ u_ws C T N, w ∈ zU) (hty : ∀ k, k < N → parseFieldDescriptor (T k).2.2.1 = some (ty0 k)) (hnm : ∀ a, a < N → ∀ b, b < N → a ≠ b → (T a).2.1 ≠ (T b).2.1) (hk : k < N) (hl : Cond.fieldLink own index (T k).1 (T k).2.1 (T k).2.2.1 ∈ zU) (hfin : (T k).2.2.2 = true) (hdecl : (T k).1 = own) (hd : parseFieldDescriptor (T k).2.2.1 = some ty) (hn : narrow ty v = v) (hfit : fits ty v = true) (hlen : k < fs.length) (h2 : fs.set k v = fs2) (d : decode cc pc = .ok (.putfield index, 3)) (kk : zC E s0 x (pc + 3) lv st n (va_up g b (.inr (ci, fs2))) cells slots) : zC E s0 x pc lv (v :: .ref (s0 + b) :: st) n (va_up g b (.inr (ci, fs))) cells slots := zc_putF hx hin2 hb (zup_e _ _ _) hci hin hty hnm hk hl hfin hdecl hd hn hfit hlen h2 d (by rw [zup_2]; exact kk)
theorem zc_fz {e : va_E} (h : f n = e) (k : zC E s0 x pc lv st (n + 1) f cells slots) : zC E s0 x pc lv st (n + 1) (va_up f n e) cells slots := by
  have h2 : va_up f n e = f := by rw [← h]; exact zup_self f n
  rw [h2]
  exact k
theorem zd_newi (hx : zOc E s0 n0 x cc own nL R) (hz : n0 + cells = n) {N : Nat} {v : Int32} (hg : f n = .inl (E.2.2.1 0, N, .inl (fun _ => 0))) (hn : ¬ v < 0) (hN : v.toNatClampNeg = N) (hb : N ≤ 1000) (hcells : cells + 1 ≤ R.cells) (hslots : slots + N ≤ R.slots) (d : decode cc pc = .ok (.newarray .int, 2)) (kk : zC E s0 x (pc + 2) lv (.ref (s0 + n) :: st) (n + 1) f (cells + 1) (slots + N)) : zC E s0 x pc lv (.int v :: st) n f cells slots := zc_newa (atype := .int) (t0 := 0) (a0 := (N, .inl (fun _ => 0))) hx hz rfl rfl (fun _ _ h => h) zw_72 (fun _ => rfl) hn hN (by show N * 4 ≤ _; omega) hcells hslots d (zc_fz hg kk)
theorem zd_newz (hx : zOc E s0 n0 x cc own nL R) (hz : n0 + cells = n) {N : Nat} {v : Int32} (hg : f n = .inl (E.2.2.1 2, N, .inl (fun _ => 0))) (hn : ¬ v < 0) (hN : v.toNatClampNeg = N) (hb : N ≤ 1000) (hcells : cells + 1 ≤ R.cells) (hslots : slots + N ≤ R.slots) (d : decode cc pc = .ok (.newarray .boolean, 2)) (kk : zC E s0 x (pc + 2) lv (.ref (s0 + n) :: st) (n + 1) f (cells + 1) (slots + N)) : zC E s0 x pc lv (.int v :: st) n f cells slots := zc_newa (atype := .boolean) (t0 := 2) (a0 := (N, .inl (fun _ => 0))) hx hz rfl rfl (fun _ _ h => h) zw_154 (fun _ => rfl) hn hN (by show N * 1 ≤ _; omega) hcells hslots d (zc_fz hg kk)
theorem zd_newj (hx : zOc E s0 n0 x cc own nL R) (hz : n0 + cells = n) {N : Nat} {v : Int32} (hg : f n = .inl (E.2.2.1 1, N, .inr (.inl (fun _ => 0)))) (hn : ¬ v < 0) (hN : v.toNatClampNeg = N) (hb : N ≤ 1000) (hcells : cells + 1 ≤ R.cells) (hslots : slots + N ≤ R.slots) (d : decode cc pc = .ok (.newarray .long, 2)) (kk : zC E s0 x (pc + 2) lv (.ref (s0 + n) :: st) (n + 1) f (cells + 1) (slots + N)) : zC E s0 x pc lv (.int v :: st) n f cells slots := zc_newa (atype := .long) (t0 := 1) (a0 := (N, .inr (.inl (fun _ => 0)))) hx hz rfl rfl (fun _ _ h => h) zw_155 (fun _ => rfl) hn hN (by show N * 8 ≤ _; omega) hcells hslots d (zc_fz hg kk)
theorem zd_newq (hx : zOc E s0 n0 x cc own nL R) (hz : n0 + cells = n) {index N : Nat} {v : Int32} (hg : f n = .inl (E.2.2.1 3, N, .inr (.inr (.inr (.inr (fun _ => none)))))) (hcl : Cond.classLink own index RX3 ∈ zU) (hn : ¬ v < 0) (hN : v.toNatClampNeg = N) (hb : N ≤ 1000) (hcells : cells + 1 ≤ R.cells) (hslots : slots + N ≤ R.slots) (d : decode cc pc = .ok (.anewarray index, 3)) (kk : zC E s0 x (pc + 3) lv (.ref (s0 + n) :: st) (n + 1) f (cells + 1) (slots + N)) : zC E s0 x pc lv (.int v :: st) n f cells slots := zc_newq hx hz hcl hn hN (by omega) hcells hslots d (zc_fz hg kk)
theorem zd_multi (hx : zOc E s0 n0 x cc own nL R) (hz : n0 + cells = n) {index N K : Nat} {v w : Int32} (g2 : f n = .inl (E.2.2.1 4, N, .inr (.inr (.inr (.inr (fun j => if j < N then some (s0 + (n + 1 + j)) else none)))))) (g3 : ∀ j, j < N → f (n + 1 + j) = .inl (E.2.2.1 1, K, .inr (.inl (fun _ => 0)))) (hcl : Cond.classLink own index "[[J" ∈ zU) (hv : ¬ v < 0) (hw : ¬ w < 0) (hN : v.toNatClampNeg = N) (hK : w.toNatClampNeg = K) (hN2 : N ≤ 1000) (hK2 : K ≤ 1000) (hcells : cells + (1 + N) ≤ R.cells) (hslots : slots + (N + N * K) ≤ R.slots) (d : decode cc pc = .ok (.multianewarray index 2, 4)) (kk : zC E s0 x (pc + 4) lv (.ref (s0 + n) :: st) (n + 1 + N) f (cells + 1 + N) (slots + N + N * K)) : zC E s0 x pc lv (.int w :: .int v :: st) n f cells slots := zc_multi hx hz hcl hv hw hN hK hN2 hK2 hcells hslots d (fun _ _ => rfl) g2 g3 kk
end ZDR
section ZDM
variable {l : Launch} {D : va_G} {cy : Nat → ClassId} {s0 n0 : Nat} {x : zX} {cc : ByteArray} {own : String} {nL : Nat} {R : Room} {pc : Nat} {lv : List (Nat × Value)} {st : List Value} {n : Nat} {f : Nat → va_E} {cells slots : Nat}
theorem zmk_f {mc : Nat} {e : va_E} (hf : ∀ i, n ≤ i → i < n + 1 + mc → f i = zTg cy s0 i) : ∀ i, i < n + 1 + mc → zf2 cy s0 (va_up f n e) n i = f i := fun i hi => by
  unfold zf2
  by_cases q : n ≤ i
  · rw [if_pos q, hf i q hi]
  · rw [if_neg q, zup_n _ _ (by omega)]
/-- new, dup, the constructor -/
theorem zd_mk (hx : zOc (zE0 l D cy s0) s0 n0 x cc own nL R) (hz : n0 + cells = n) {C : String} {T : u_T} {N ci index index2 : Nat} {fs : List Value} (ty : Nat → FieldType) (hin : ∀ w ∈ u_ws C T N, w ∈ zU) (hty : ∀ k, k < N → parseFieldDescriptor (T k).2.2.1 = some (ty k)) (hcl : Cond.classLink own index C ∈ zU) (hinst : Cond.instantiable C N ∈ zU) (hini : Cond.initialized C ∈ zU) (hc : vwCl[ci]? = some (C, T, N)) (hfs : ∀ j, j < N → defaultValue (ty j) = vp_V fs j) {y : MethodName} {bytes : ByteArray} {maxL mc ms : Nat} {rm : Room} (hM : ∀ f0 : Nat → va_E, f0 n = .inr (ci, fs) → zKc (zE0 l D cy s0) s0 y (.code y bytes maxL none) rm n (n + 1) f0 mc ms (zf2 cy s0 f0 n)) (w1 : va_Nw (.methodLinkNest own index2 y RX5) x.2.2.2.1 ∨ Cond.methodLink own index2 y ∈ zU) (hy : zYI y bytes maxL) (hf : ∀ i, n ≤ i → i < n + 1 + mc → f i = zTg cy s0 i) (hrm : rm.cells = mc ∧ rm.slots = ms) (hR : rm.frames + 1 ≤ R.frames ∧ 8 + (maxL + 11) + rm.locals ≤ R.locals) (hcells : cells + 1 + mc ≤ R.cells) (hslots : slots + N + ms ≤ R.slots) (hW : (st.map fun v => v.category).sum ≤ 7) (d1 : decode cc pc = .ok (.new index, 3)) (d2 : decode cc (pc + 3) = .ok (.dup, 1)) (d3 : decode cc (pc + 3 + 1) = .ok (.invokespecial index2, 3)) (kk : zC (zE0 l D cy s0) s0 x (pc + 3 + 1 + 3) lv (.ref (s0 + n) :: st) (n + 1 + mc) f (cells + 1 + mc) (slots + N + ms)) : zC (zE0 l D cy s0) s0 x pc lv st n f cells slots := by
  refine zc_new hx hz ty hin hty hcl hinst hini hc hfs (by omega) (by omega) d1 ?_
  refine zc_dup hx d2 rfl ?_
  have key : zC (zE0 l D cy s0) s0 x (pc + 3 + 1 + 3) lv (.ref (s0 + n) :: st) (n + 1 + mc) (zf2 cy s0 (va_up f n (.inr (ci, fs))) n) (cells + 1 + mc) (slots + N + ms) := fun H locs ls hl hP hS => kk H locs ls hl (zHp_cg hP (zmk_f hf)) hS
  have hW2 : ((Value.ref (s0 + n) :: st).map fun v => v.category).sum ≤ 8 := by
    show 1 + (st.map fun v => v.category).sum ≤ 8
    omega
  rcases w1 with w | w
  · exact zc_callIN hx (by omega) (hM _ (zup_e _ _ _)) w hy hrm hR ⟨hcells, hslots⟩ hW2 d3 key
  · exact zc_callI hx (by omega) (hM _ (zup_e _ _ _)) w hy hrm hR ⟨hcells, hslots⟩ hW2 d3 key
end ZDM
