theorem zcp_nat : Cond.native arraycopyName ∈ zU := zw_308
theorem zcp_st : Cond.static arraycopyName ∈ zU := zw_307
theorem zcp_in : Cond.initialized "java/lang/System" ∈ zU := zw_47
abbrev zM : Type := (Nat → Nat → Int32) × (Nat → Nat → Int64)
abbrev zE : Type := Launch × va_G × (Nat → ClassId) × (Nat → Nat)
abbrev zX : Type := Program × Env × Room × State × MethodId × Array Value × List Frame × Method × Code × (State → Prop)
/-- what cell c holds: its own ints g, its own longs h; references never change -/
def zsh0 (cy : Nat → ClassId) (ad : Nat → Nat) (g : Nat → Int32) (h : Nat → Int64) (c : Nat) : va_E := match c with
  | 0 => .inr (5, [.ref (ad 1), .ref (ad 46), .ref (ad 49), .ref (ad 4), .ref (ad 6), .ref (ad 3), .ref (ad 7), .ref (ad 11), .long (h 8)])
  | 1 => .inr (4, [.ref (ad 2), .int (g 1)])
  | 2 => .inl (cy 0, 90, .inl g)
  | 3 => .inl (cy 2, 2, .inl g)
  | 4 => .inr (0, [.ref (ad 5), .int (g 1), .int (g 2)])
  | 5 => .inl (cy 3, 14, .inr (.inr (.inr (.inr (fun i => if i < 14 then some (ad (52 + 3 * i)) else none)))))
  | 6 => .inl (cy 3, 2, .inr (.inr (.inr (.inr (fun i => if i < 2 then some (ad (94 + 3 * i)) else none)))))
  | 7 => .inr (1, [.ref (ad 8), .ref (ad 9), .ref (ad 10), .int (g 3), .int (g 4), .int (g 5), .long (h 6)])
  | 8 => .inl (cy 4, 6, .inr (.inr (.inr (.inr (fun i => if i < 6 then some (ad (15 + 1 * i)) else none)))))
  | 9 => .inl (cy 4, 6, .inr (.inr (.inr (.inr (fun i => if i < 6 then some (ad (21 + 1 * i)) else none)))))
  | 10 => .inl (cy 1, 6, .inr (.inl h))
  | 11 => .inr (2, [.ref (ad 12), .ref (ad 13), .ref (ad 14)])
  | 12 => .inl (cy 4, 5, .inr (.inr (.inr (.inr (fun i => if i < 5 then some (ad (27 + 1 * i)) else none)))))
  | 13 => .inl (cy 0, 5, .inl g)
  | 14 => .inl (cy 0, 256, .inl g)
  | 32 => .inr (6, [.int (g 0), .ref (ad 33), .int (g 2), .int (g 3), .int (g 4), .int (g 5), .ref (ad 34), .ref (ad 35), .ref (ad 36), .ref (ad 37), .ref (ad 38), .int (g 11), .ref (ad 39), .ref (ad 40), .long (h 14), .int (g 15), .ref (ad 41), .ref (ad 42), .long (h 18), .ref (ad 43), .ref (ad 44), .ref (ad 45), .long (h 22), .long (h 23)])
  | 33 => .inl (cy 0, 90, .inl g)
  | 34 => .inl (cy 0, 18, .inl g)
  | 35 => .inl (cy 0, 18, .inl g)
  | 36 => .inl (cy 0, 18, .inl g)
  | 37 => .inl (cy 0, 18, .inl g)
  | 38 => .inl (cy 0, 252, .inl g)
  | 39 => .inl (cy 0, 36, .inl g)
  | 40 => .inl (cy 2, 2, .inl g)
  | 41 => .inl (cy 1, 25, .inr (.inl h))
  | 42 => .inl (cy 1, 5, .inr (.inl h))
  | 43 => .inl (cy 1, 25, .inr (.inl h))
  | 44 => .inl (cy 0, 5, .inl g)
  | 45 => .inl (cy 0, 5, .inl g)
  | _ => .inl (cy 1, 6, .inr (.inl h))
def zsh (cy : Nat → ClassId) (ad : Nat → Nat) (g : Nat → Int32) (h : Nat → Int64) (c : Nat) : va_E :=
  if 46 ≤ c then (if (c - 46) % 3 = 0 then .inr (3, [.int (g 0), .int (g 1), .int (g 2), .ref (ad (c + 1)), .ref (ad (c + 2))]) else .inl (cy 0, 8, .inl g)) else zsh0 cy ad g h c
def zwd (E : zE) (M : zM) : va_W := (List.range 100).map (fun c => (E.2.2.2 c, zsh E.2.2.1 E.2.2.2 (M.1 c) (M.2 c) c))
def zA (E : zE) : Nat → Prop := fun q => ∃ c, c < 100 ∧ q = E.2.2.2 c
def zI (E : zE) : Prop := ∀ i j, i < 100 → j < 100 → E.2.2.2 i = E.2.2.2 j → i = j
abbrev ztys (E : zE) : List (ClassId × FieldType) := [(E.2.2.1 0, .int), (E.2.2.1 1, .long), (E.2.2.1 2, .boolean), (E.2.2.1 3, .object RX3), (E.2.2.1 4, .array .long)]
abbrev zNest : Cond := .methodLinkNest RX1 95 yX5_isLess RX5
def zG (E : zE) (U : State) : Prop := va_K E.2.1 vwCl (ztys E) U ∧ va_Nw zNest U
theorem zwd_get (E : zE) (M : zM) {c : Nat} (h : c < 100) : (zwd E M)[c]? = some (E.2.2.2 c, zsh E.2.2.1 E.2.2.2 (M.1 c) (M.2 c) c) := by
  simp [zwd, List.getElem?_map, List.getElem?_range, h]
theorem zwd_len (E : zE) (M : zM) : (zwd E M).length = 100 := by simp [zwd]
theorem zwd_set (E : zE) (M : zM) {c : Nat} (h : c < 100) (g : Nat → Int32) (k : Nat → Int64) : (zwd E M).set c (E.2.2.2 c, zsh E.2.2.1 E.2.2.2 g k c) = zwd E (va_up M.1 c g, va_up M.2 c k) := by
  apply List.ext_getElem?
  intro i
  by_cases hi : i < 100
  · rw [zwd_get _ _ hi, List.getElem?_set]
    by_cases e : c = i
    · subst e
      simp [zwd_len, h, va_up]
    · rw [if_neg e, zwd_get _ _ hi]
      have e2 : ¬ i = c := fun q => e q.symm
      simp [va_up, e2]
  · rw [List.getElem?_eq_none (by rw [List.length_set, zwd_len]; omega), List.getElem?_eq_none (by rw [zwd_len]; omega)]
theorem zwd_D (E : zE) (M : zM) (hI : zI E) : va_D (zA E) (zwd E M) := by
  refine ⟨fun i j p q hi hj e => ?_, fun k q hk => ?_⟩
  · have h1 : i < 100 := by
      have := (List.getElem?_eq_some_iff.mp hi).1
      rwa [zwd_len] at this
    have h2 : j < 100 := by
      have := (List.getElem?_eq_some_iff.mp hj).1
      rwa [zwd_len] at this
    rw [zwd_get _ _ h1] at hi
    rw [zwd_get _ _ h2] at hj
    cases hi; cases hj
    exact hI i j h1 h2 e
  · have h1 : k < 100 := by
      have := (List.getElem?_eq_some_iff.mp hk).1
      rwa [zwd_len] at this
    rw [zwd_get _ _ h1] at hk
    cases hk
    exact ⟨k, h1, rfl⟩
/-- at pc, with these locals known, this stack, this memory: the machine comes to its end -/
def zJ (E : zE) (x : zX) (pc : Nat) (lv : List (Nat × Value)) (st : List Value) (M : zM) : Prop :=
  ∀ (H : Heap) (locs : List Loc) (ls : Array Slot), lv_has ls x.2.2.2.2.2.2.2.2.1.maxLocals lv → va_P E.2.1 vwCl (zwd E M) H → va_S (zA E) x.2.2.2.1.heap H locs →
    W x.1 E.1 x.2.1 x.2.2.1 x.2.2.2.1 x.2.2.2.2.1 x.2.2.2.2.2.1 x.2.2.2.2.2.2.1 x.2.2.2.2.2.2.2.1 x.2.2.2.2.2.2.2.2.1 H locs 0 0 x.2.2.2.2.2.2.2.2.2 (F0 x.2.2.2.2.1 pc ls st)
def zOk (E : zE) (x : zX) (cc : ByteArray) (own : String) (nL : Nat) (R : Room) : Prop :=
  x.1.tables.exec = Jvm.exec ∧ x.2.2.2.2.2.2.2.2.1.code = cc ∧ x.2.2.2.2.2.2.2.2.1.maxLocals = nL ∧ x.2.2.2.1.vm.findClass own = some x.2.2.2.2.1.cls ∧ (∀ w ∈ zU, w.before x.2.2.2.2.2.1 x.2.2.2.1 = true) ∧ zG E x.2.2.2.1 ∧ zI E ∧ x.2.2.1 = R
def zputI (M : zM) (c k : Nat) (v : Int32) : zM := (va_up M.1 c (upd (M.1 c) k v), M.2)
def zputJ (M : zM) (c k : Nat) (v : Int64) : zM := (M.1, va_up M.2 c (vp_updL (M.2 c) k v))
def zsetI (M : zM) (c : Nat) (g : Nat → Int32) : zM := (va_up M.1 c g, M.2)
def zsetJ (M : zM) (c : Nat) (h : Nat → Int64) : zM := (M.1, va_up M.2 c h)
theorem zup_self {α : Type} (f : Nat → α) (c : Nat) : va_up f c (f c) = f := by
  funext i
  by_cases h : i = c
  · subst h; simp [va_up]
  · simp [va_up, h]
section ZJ
variable {E : zE} {x : zX} {cc : ByteArray} {own : String} {nL : Nat} {R : Room} {pc : Nat} {lv : List (Nat × Value)} {st : List Value} {M : zM}
theorem zJ_M {M2 : zM} (h : M = M2) (k : zJ E x pc lv st M2) : zJ E x pc lv st M := h ▸ k
theorem zJ_st {st2 : List Value} (h : st = st2) (k : zJ E x pc lv st2 M) : zJ E x pc lv st M := h ▸ k
theorem z_lv {lv2 : List (Nat × Value)} (ks : List Nat) (h : lv_pick lv ks = lv2) (k : zJ E x pc lv2 st M) : zJ E x pc lv st M := fun H locs ls hl hP hS => k H locs ls (lv_sub hl ks h) hP hS
theorem z_iconst (hx : zOk E x cc own nL R) {n : Int} {v : Int32} (d : decode cc pc = .ok (.iconst n, 1)) (hv : Int32.ofInt n = v) (k : zJ E x (pc + 1) lv (.int v :: st) M) : zJ E x pc lv (st) M := fun H locs ls hl hP hS => lv_iconst hx.1 hx.2.1 d hv (k H locs ls hl hP hS)
theorem z_bipush (hx : zOk E x cc own nL R) {n : Int} {v : Int32} (d : decode cc pc = .ok (.bipush n, 2)) (hv : (Int8.ofInt n).toInt32 = v) (k : zJ E x (pc + 2) lv (.int v :: st) M) : zJ E x pc lv (st) M := fun H locs ls hl hP hS => lv_bipush hx.1 hx.2.1 d hv (k H locs ls hl hP hS)
theorem z_sipush (hx : zOk E x cc own nL R) {n : Int} {v : Int32} (d : decode cc pc = .ok (.sipush n, 3)) (hv : (Int16.ofInt n).toInt32 = v) (k : zJ E x (pc + 3) lv (.int v :: st) M) : zJ E x pc lv (st) M := fun H locs ls hl hP hS => lv_sipush hx.1 hx.2.1 d hv (k H locs ls hl hP hS)
theorem z_lconst (hx : zOk E x cc own nL R) {n : Fin 2} {v : Int64} (d : decode cc pc = .ok (.lconst n, 1)) (hv : Int64.ofNat (n : Nat) = v) (k : zJ E x (pc + 1) lv (.long v :: st) M) : zJ E x pc lv (st) M := fun H locs ls hl hP hS => lv_lconst hx.1 hx.2.1 d hv (k H locs ls hl hP hS)
theorem z_iload_n (hx : zOk E x cc own nL R) (q : Nat) {k : Fin 4} {i : Nat} {v : Int32} (d : decode cc pc = .ok (.iload_n k, 1)) (hi : (k : Nat) = i) (hq : lv[q]? = some (i, .int v)) (kk : zJ E x (pc + 1) lv (.int v :: st) M) : zJ E x pc lv st M := fun H locs ls hl hP hS => lv_iload_n hx.1 hx.2.1 d hi (lv_at hl q hq) (kk H locs ls hl hP hS)
theorem z_iload (hx : zOk E x cc own nL R) (q : Nat) {i : Nat} {v : Int32} (d : decode cc pc = .ok (.iload i, 2)) (hq : lv[q]? = some (i, .int v)) (kk : zJ E x (pc + 2) lv (.int v :: st) M) : zJ E x pc lv st M := fun H locs ls hl hP hS => lv_iload hx.1 hx.2.1 d (lv_at hl q hq) (kk H locs ls hl hP hS)
theorem z_istore_n (hx : zOk E x cc own nL R) {k : Fin 4} {i : Nat} {v : Int32} {lv2 : List (Nat × Value)} (d : decode cc pc = .ok (.istore_n k, 1)) (hi : (k : Nat) = i) (hn : i < nL) (hl2 : (i, Value.int v) :: lv.filter (fun q => !(q.1 == i) && !(q.1 + 1 == i && q.2.category == 2)) = lv2) (kk : zJ E x (pc + 1) lv2 st M) : zJ E x pc lv (.int v :: st) M := fun H locs ls hl hP hS => lv_istore_n hx.1 hx.2.1 d hi hl (by rw [hx.2.2.1]; exact hn) hl2 (fun ls hl => kk H locs ls hl hP hS)
theorem z_istore (hx : zOk E x cc own nL R) {i : Nat} {v : Int32} {lv2 : List (Nat × Value)} (d : decode cc pc = .ok (.istore i, 2)) (hn : i < nL) (hl2 : (i, Value.int v) :: lv.filter (fun q => !(q.1 == i) && !(q.1 + 1 == i && q.2.category == 2)) = lv2) (kk : zJ E x (pc + 2) lv2 st M) : zJ E x pc lv (.int v :: st) M := fun H locs ls hl hP hS => lv_istore hx.1 hx.2.1 d hl (by rw [hx.2.2.1]; exact hn) hl2 (fun ls hl => kk H locs ls hl hP hS)
theorem z_lload_n (hx : zOk E x cc own nL R) (q : Nat) {k : Fin 4} {i : Nat} {v : Int64} (d : decode cc pc = .ok (.lload_n k, 1)) (hi : (k : Nat) = i) (hq : lv[q]? = some (i, .long v)) (kk : zJ E x (pc + 1) lv (.long v :: st) M) : zJ E x pc lv st M := fun H locs ls hl hP hS => lv_lload_n hx.1 hx.2.1 d hi (lv_at hl q hq) (kk H locs ls hl hP hS)
theorem z_lload (hx : zOk E x cc own nL R) (q : Nat) {i : Nat} {v : Int64} (d : decode cc pc = .ok (.lload i, 2)) (hq : lv[q]? = some (i, .long v)) (kk : zJ E x (pc + 2) lv (.long v :: st) M) : zJ E x pc lv st M := fun H locs ls hl hP hS => lv_lload hx.1 hx.2.1 d (lv_at hl q hq) (kk H locs ls hl hP hS)
theorem z_lstore_n (hx : zOk E x cc own nL R) {k : Fin 4} {i : Nat} {v : Int64} {lv2 : List (Nat × Value)} (d : decode cc pc = .ok (.lstore_n k, 1)) (hi : (k : Nat) = i) (hn : i + 1 < nL) (hl2 : (i, Value.long v) :: lv.filter (fun q => !(q.1 == i) && (!(q.1 == i + 1) && !(q.1 + 1 == i && q.2.category == 2))) = lv2) (kk : zJ E x (pc + 1) lv2 st M) : zJ E x pc lv (.long v :: st) M := fun H locs ls hl hP hS => lv_lstore_n hx.1 hx.2.1 d hi hl (by rw [hx.2.2.1]; exact hn) hl2 (fun ls hl => kk H locs ls hl hP hS)
theorem z_lstore (hx : zOk E x cc own nL R) {i : Nat} {v : Int64} {lv2 : List (Nat × Value)} (d : decode cc pc = .ok (.lstore i, 2)) (hn : i + 1 < nL) (hl2 : (i, Value.long v) :: lv.filter (fun q => !(q.1 == i) && (!(q.1 == i + 1) && !(q.1 + 1 == i && q.2.category == 2))) = lv2) (kk : zJ E x (pc + 2) lv2 st M) : zJ E x pc lv (.long v :: st) M := fun H locs ls hl hP hS => lv_lstore hx.1 hx.2.1 d hl (by rw [hx.2.2.1]; exact hn) hl2 (fun ls hl => kk H locs ls hl hP hS)
theorem z_aload_n (hx : zOk E x cc own nL R) (q : Nat) {k : Fin 4} {i : Nat} {v : Nat} (d : decode cc pc = .ok (.aload_n k, 1)) (hi : (k : Nat) = i) (hq : lv[q]? = some (i, .ref v)) (kk : zJ E x (pc + 1) lv (.ref v :: st) M) : zJ E x pc lv st M := fun H locs ls hl hP hS => lv_aload_n hx.1 hx.2.1 d hi (lv_at hl q hq) (kk H locs ls hl hP hS)
theorem z_aload (hx : zOk E x cc own nL R) (q : Nat) {i : Nat} {v : Nat} (d : decode cc pc = .ok (.aload i, 2)) (hq : lv[q]? = some (i, .ref v)) (kk : zJ E x (pc + 2) lv (.ref v :: st) M) : zJ E x pc lv st M := fun H locs ls hl hP hS => lv_aload hx.1 hx.2.1 d (lv_at hl q hq) (kk H locs ls hl hP hS)
theorem z_astore_n (hx : zOk E x cc own nL R) {k : Fin 4} {i : Nat} {v : Nat} {lv2 : List (Nat × Value)} (d : decode cc pc = .ok (.astore_n k, 1)) (hi : (k : Nat) = i) (hn : i < nL) (hl2 : (i, Value.ref v) :: lv.filter (fun q => !(q.1 == i) && !(q.1 + 1 == i && q.2.category == 2)) = lv2) (kk : zJ E x (pc + 1) lv2 st M) : zJ E x pc lv (.ref v :: st) M := fun H locs ls hl hP hS => lv_astore_n hx.1 hx.2.1 d hi hl (by rw [hx.2.2.1]; exact hn) hl2 (fun ls hl => kk H locs ls hl hP hS)
theorem z_astore (hx : zOk E x cc own nL R) {i : Nat} {v : Nat} {lv2 : List (Nat × Value)} (d : decode cc pc = .ok (.astore i, 2)) (hn : i < nL) (hl2 : (i, Value.ref v) :: lv.filter (fun q => !(q.1 == i) && !(q.1 + 1 == i && q.2.category == 2)) = lv2) (kk : zJ E x (pc + 2) lv2 st M) : zJ E x pc lv (.ref v :: st) M := fun H locs ls hl hP hS => lv_astore hx.1 hx.2.1 d hl (by rw [hx.2.2.1]; exact hn) hl2 (fun ls hl => kk H locs ls hl hP hS)
theorem z_iinc (hx : zOk E x cc own nL R) (q : Nat) {i : Nat} {n : Int} {v w : Int32} {lv2 : List (Nat × Value)} (d : decode cc pc = .ok (.iinc i n, 3)) (hq : lv[q]? = some (i, .int v)) (hv : v + Int32.ofInt n = w) (hn : i < nL) (hl2 : (i, Value.int w) :: lv.filter (fun q => !(q.1 == i) && !(q.1 + 1 == i && q.2.category == 2)) = lv2) (kk : zJ E x (pc + 3) lv2 st M) : zJ E x pc lv st M := fun H locs ls hl hP hS => lv_iinc hx.1 hx.2.1 d hl hq hv (by rw [hx.2.2.1]; exact hn) hl2 (fun ls hl => kk H locs ls hl hP hS)
theorem z_iadd (hx : zOk E x cc own nL R) {a b : Int32} (d : decode cc pc = .ok (.iadd, 1)) (k : zJ E x (pc + 1) lv (.int (a + b) :: st) M) : zJ E x pc lv (.int b :: .int a :: st) M := fun H locs ls hl hP hS => lv_iadd hx.1 hx.2.1 d (k H locs ls hl hP hS)
theorem z_isub (hx : zOk E x cc own nL R) {a b : Int32} (d : decode cc pc = .ok (.isub, 1)) (k : zJ E x (pc + 1) lv (.int (a - b) :: st) M) : zJ E x pc lv (.int b :: .int a :: st) M := fun H locs ls hl hP hS => lv_isub hx.1 hx.2.1 d (k H locs ls hl hP hS)
theorem z_imul (hx : zOk E x cc own nL R) {a b : Int32} (d : decode cc pc = .ok (.imul, 1)) (k : zJ E x (pc + 1) lv (.int (a * b) :: st) M) : zJ E x pc lv (.int b :: .int a :: st) M := fun H locs ls hl hP hS => lv_imul hx.1 hx.2.1 d (k H locs ls hl hP hS)
theorem z_iand (hx : zOk E x cc own nL R) {a b : Int32} (d : decode cc pc = .ok (.iand, 1)) (k : zJ E x (pc + 1) lv (.int (a &&& b) :: st) M) : zJ E x pc lv (.int b :: .int a :: st) M := fun H locs ls hl hP hS => lv_iand hx.1 hx.2.1 d (k H locs ls hl hP hS)
theorem z_ior (hx : zOk E x cc own nL R) {a b : Int32} (d : decode cc pc = .ok (.ior, 1)) (k : zJ E x (pc + 1) lv (.int (a ||| b) :: st) M) : zJ E x pc lv (.int b :: .int a :: st) M := fun H locs ls hl hP hS => lv_ior hx.1 hx.2.1 d (k H locs ls hl hP hS)
theorem z_ixor (hx : zOk E x cc own nL R) {a b : Int32} (d : decode cc pc = .ok (.ixor, 1)) (k : zJ E x (pc + 1) lv (.int (a ^^^ b) :: st) M) : zJ E x pc lv (.int b :: .int a :: st) M := fun H locs ls hl hP hS => lv_ixor hx.1 hx.2.1 d (k H locs ls hl hP hS)
theorem z_ishl (hx : zOk E x cc own nL R) {a b : Int32} (d : decode cc pc = .ok (.ishl, 1)) (k : zJ E x (pc + 1) lv (.int (a <<< (b &&& 31)) :: st) M) : zJ E x pc lv (.int b :: .int a :: st) M := fun H locs ls hl hP hS => lv_ishl hx.1 hx.2.1 d (k H locs ls hl hP hS)
theorem z_ishr (hx : zOk E x cc own nL R) {a b : Int32} (d : decode cc pc = .ok (.ishr, 1)) (k : zJ E x (pc + 1) lv (.int (a >>> (b &&& 31)) :: st) M) : zJ E x pc lv (.int b :: .int a :: st) M := fun H locs ls hl hP hS => lv_ishr hx.1 hx.2.1 d (k H locs ls hl hP hS)
theorem z_idiv (hx : zOk E x cc own nL R) {a b : Int32} (d : decode cc pc = .ok (.idiv, 1)) (hne : ¬ b = 0) (k : zJ E x (pc + 1) lv (.int (a / b) :: st) M) : zJ E x pc lv (.int b :: .int a :: st) M := fun H locs ls hl hP hS => lv_idiv hx.1 hx.2.1 d hne (k H locs ls hl hP hS)
theorem z_irem (hx : zOk E x cc own nL R) {a b : Int32} (d : decode cc pc = .ok (.irem, 1)) (hne : ¬ b = 0) (k : zJ E x (pc + 1) lv (.int (a - a / b * b) :: st) M) : zJ E x pc lv (.int b :: .int a :: st) M := fun H locs ls hl hP hS => lv_irem hx.1 hx.2.1 d hne (k H locs ls hl hP hS)
theorem z_ineg (hx : zOk E x cc own nL R) {a : Int32} (d : decode cc pc = .ok (.ineg, 1)) (k : zJ E x (pc + 1) lv (.int (-a) :: st) M) : zJ E x pc lv (.int a :: st) M := fun H locs ls hl hP hS => lv_ineg hx.1 hx.2.1 d (k H locs ls hl hP hS)
theorem z_iushr (hx : zOk E x cc own nL R) {a b v : Int32} (d : decode cc pc = .ok (.iushr, 1)) (hv : (a.toUInt32 >>> (b.toUInt32 &&& Int32.toUInt32 31)).toInt32 = v) (k : zJ E x (pc + 1) lv (.int v :: st) M) : zJ E x pc lv (.int b :: .int a :: st) M := fun H locs ls hl hP hS => lv_iushr hx.1 hx.2.1 d hv (k H locs ls hl hP hS)
theorem z_ladd (hx : zOk E x cc own nL R) {a b : Int64} (d : decode cc pc = .ok (.ladd, 1)) (k : zJ E x (pc + 1) lv (.long (a + b) :: st) M) : zJ E x pc lv (.long b :: .long a :: st) M := fun H locs ls hl hP hS => lv_ladd hx.1 hx.2.1 d (k H locs ls hl hP hS)
theorem z_lsub (hx : zOk E x cc own nL R) {a b : Int64} (d : decode cc pc = .ok (.lsub, 1)) (k : zJ E x (pc + 1) lv (.long (a - b) :: st) M) : zJ E x pc lv (.long b :: .long a :: st) M := fun H locs ls hl hP hS => lv_lsub hx.1 hx.2.1 d (k H locs ls hl hP hS)
theorem z_lmul (hx : zOk E x cc own nL R) {a b : Int64} (d : decode cc pc = .ok (.lmul, 1)) (k : zJ E x (pc + 1) lv (.long (a * b) :: st) M) : zJ E x pc lv (.long b :: .long a :: st) M := fun H locs ls hl hP hS => lv_lmul hx.1 hx.2.1 d (k H locs ls hl hP hS)
theorem z_land (hx : zOk E x cc own nL R) {a b : Int64} (d : decode cc pc = .ok (.land, 1)) (k : zJ E x (pc + 1) lv (.long (a &&& b) :: st) M) : zJ E x pc lv (.long b :: .long a :: st) M := fun H locs ls hl hP hS => lv_land hx.1 hx.2.1 d (k H locs ls hl hP hS)
theorem z_lor (hx : zOk E x cc own nL R) {a b : Int64} (d : decode cc pc = .ok (.lor, 1)) (k : zJ E x (pc + 1) lv (.long (a ||| b) :: st) M) : zJ E x pc lv (.long b :: .long a :: st) M := fun H locs ls hl hP hS => lv_lor hx.1 hx.2.1 d (k H locs ls hl hP hS)
theorem z_ldiv (hx : zOk E x cc own nL R) {a b : Int64} (d : decode cc pc = .ok (.ldiv, 1)) (hne : ¬ b = 0) (k : zJ E x (pc + 1) lv (.long (a / b) :: st) M) : zJ E x pc lv (.long b :: .long a :: st) M := fun H locs ls hl hP hS => lv_ldiv hx.1 hx.2.1 d hne (k H locs ls hl hP hS)
theorem z_lrem (hx : zOk E x cc own nL R) {a b : Int64} (d : decode cc pc = .ok (.lrem, 1)) (hne : ¬ b = 0) (k : zJ E x (pc + 1) lv (.long (a - a / b * b) :: st) M) : zJ E x pc lv (.long b :: .long a :: st) M := fun H locs ls hl hP hS => lv_lrem hx.1 hx.2.1 d hne (k H locs ls hl hP hS)
theorem z_lneg (hx : zOk E x cc own nL R) {a : Int64} (d : decode cc pc = .ok (.lneg, 1)) (k : zJ E x (pc + 1) lv (.long (-a) :: st) M) : zJ E x pc lv (.long a :: st) M := fun H locs ls hl hP hS => lv_lneg hx.1 hx.2.1 d (k H locs ls hl hP hS)
theorem z_i2l (hx : zOk E x cc own nL R) {a : Int32} (d : decode cc pc = .ok (.i2l, 1)) (k : zJ E x (pc + 1) lv (.long a.toInt64 :: st) M) : zJ E x pc lv (.int a :: st) M := fun H locs ls hl hP hS => lv_i2l hx.1 hx.2.1 d rfl (k H locs ls hl hP hS)
theorem z_l2i (hx : zOk E x cc own nL R) {a : Int64} (d : decode cc pc = .ok (.l2i, 1)) (k : zJ E x (pc + 1) lv (.int a.toInt32 :: st) M) : zJ E x pc lv (.long a :: st) M := fun H locs ls hl hP hS => lv_l2i hx.1 hx.2.1 d rfl (k H locs ls hl hP hS)
theorem z_lushr (hx : zOk E x cc own nL R) {a : Int64} {b : Int32} (d : decode cc pc = .ok (.lushr, 1)) (k : zJ E x (pc + 1) lv (.long (a.toUInt64 >>> (b.toInt64.toUInt64 &&& Int64.toUInt64 63)).toInt64 :: st) M) : zJ E x pc lv (.int b :: .long a :: st) M := fun H locs ls hl hP hS => lv_lushr hx.1 hx.2.1 d rfl (k H locs ls hl hP hS)
theorem z_lshl (hx : zOk E x cc own nL R) {a : Int64} {b : Int32} (d : decode cc pc = .ok (.lshl, 1)) (k : zJ E x (pc + 1) lv (.long (a <<< (b.toInt64 &&& 63)) :: st) M) : zJ E x pc lv (.int b :: .long a :: st) M := fun H locs ls hl hP hS => lv_lshl hx.1 hx.2.1 d rfl (k H locs ls hl hP hS)
theorem z_lcmp (hx : zOk E x cc own nL R) {a b : Int64} (d : decode cc pc = .ok (.lcmp, 1)) (k : zJ E x (pc + 1) lv (.int (lg_cmp a b) :: st) M) : zJ E x pc lv (.long b :: .long a :: st) M := fun H locs ls hl hP hS => W.lcmp hx.1 hx.2.1 d (k H locs ls hl hP hS)
theorem z_dup (hx : zOk E x cc own nL R) {va : Value} (d : decode cc pc = .ok (.dup, 1)) (h1 : va.category = 1) (k : zJ E x (pc + 1) lv (va :: va :: st) M) : zJ E x pc lv (va :: st) M := fun H locs ls hl hP hS => lv_dup hx.1 hx.2.1 d h1 (k H locs ls hl hP hS)
theorem z_pop (hx : zOk E x cc own nL R) {va : Value} (d : decode cc pc = .ok (.pop, 1)) (h1 : va.category = 1) (k : zJ E x (pc + 1) lv (st) M) : zJ E x pc lv (va :: st) M := fun H locs ls hl hP hS => lv_pop hx.1 hx.2.1 d h1 (k H locs ls hl hP hS)
theorem z_dup_x1 (hx : zOk E x cc own nL R) {va vb : Value} (d : decode cc pc = .ok (.dup_x1, 1)) (h1 : va.category = 1) (h2 : vb.category = 1) (k : zJ E x (pc + 1) lv (va :: vb :: va :: st) M) : zJ E x pc lv (va :: vb :: st) M := fun H locs ls hl hP hS => lv_dup_x1 hx.1 hx.2.1 d h1 h2 (k H locs ls hl hP hS)
theorem z_dup_x2 (hx : zOk E x cc own nL R) {va vb vd : Value} (d : decode cc pc = .ok (.dup_x2, 1)) (h1 : va.category = 1) (h2 : vb.category = 1) (h3 : vd.category = 1) (k : zJ E x (pc + 1) lv (va :: vb :: vd :: va :: st) M) : zJ E x pc lv (va :: vb :: vd :: st) M := fun H locs ls hl hP hS => lv_dup_x2 hx.1 hx.2.1 d h1 h2 h3 (k H locs ls hl hP hS)
theorem z_dup2_11 (hx : zOk E x cc own nL R) {va vb : Value} (d : decode cc pc = .ok (.dup2, 1)) (h1 : va.category = 1) (h2 : vb.category = 1) (k : zJ E x (pc + 1) lv (va :: vb :: va :: vb :: st) M) : zJ E x pc lv (va :: vb :: st) M := fun H locs ls hl hP hS => lv_dup2_11 hx.1 hx.2.1 d h1 h2 (k H locs ls hl hP hS)
theorem z_dup2_2 (hx : zOk E x cc own nL R) {va : Value} (d : decode cc pc = .ok (.dup2, 1)) (h1 : va.category = 2) (k : zJ E x (pc + 1) lv (va :: va :: st) M) : zJ E x pc lv (va :: st) M := fun H locs ls hl hP hS => lv_dup2_2 hx.1 hx.2.1 d h1 (k H locs ls hl hP hS)
theorem z_if_eq (hx : zOk E x cc own nL R) {x0 : Int32} {off : Int} {tgt : Nat} (d : decode cc pc = .ok (.ifCond .eq off, 3)) (ht : (pc : Int) + off = (tgt : Int)) (kt : x0 = 0 → zJ E x tgt lv st M) (kf : ¬ x0 = 0 → zJ E x (pc + 3) lv st M) : zJ E x pc lv (.int x0 :: st) M := fun H locs ls hl hP hS => lv_if_eq hx.1 hx.2.1 d ht (fun q => kt q H locs ls hl hP hS) (fun q => kf q H locs ls hl hP hS)
theorem z_icmp_eq (hx : zOk E x cc own nL R) {x0 y0 : Int32} {off : Int} {tgt : Nat} (d : decode cc pc = .ok (.if_icmp .eq off, 3)) (ht : (pc : Int) + off = (tgt : Int)) (kt : x0 = y0 → zJ E x tgt lv st M) (kf : ¬ x0 = y0 → zJ E x (pc + 3) lv st M) : zJ E x pc lv (.int y0 :: .int x0 :: st) M := fun H locs ls hl hP hS => lv_icmp_eq hx.1 hx.2.1 d ht (fun q => kt q H locs ls hl hP hS) (fun q => kf q H locs ls hl hP hS)
theorem z_if_ne (hx : zOk E x cc own nL R) {x0 : Int32} {off : Int} {tgt : Nat} (d : decode cc pc = .ok (.ifCond .ne off, 3)) (ht : (pc : Int) + off = (tgt : Int)) (kt : ¬ x0 = 0 → zJ E x tgt lv st M) (kf : x0 = 0 → zJ E x (pc + 3) lv st M) : zJ E x pc lv (.int x0 :: st) M := fun H locs ls hl hP hS => lv_if_ne hx.1 hx.2.1 d ht (fun q => kt q H locs ls hl hP hS) (fun q => kf q H locs ls hl hP hS)
theorem z_icmp_ne (hx : zOk E x cc own nL R) {x0 y0 : Int32} {off : Int} {tgt : Nat} (d : decode cc pc = .ok (.if_icmp .ne off, 3)) (ht : (pc : Int) + off = (tgt : Int)) (kt : ¬ x0 = y0 → zJ E x tgt lv st M) (kf : x0 = y0 → zJ E x (pc + 3) lv st M) : zJ E x pc lv (.int y0 :: .int x0 :: st) M := fun H locs ls hl hP hS => lv_icmp_ne hx.1 hx.2.1 d ht (fun q => kt q H locs ls hl hP hS) (fun q => kf q H locs ls hl hP hS)
theorem z_if_lt (hx : zOk E x cc own nL R) {x0 : Int32} {off : Int} {tgt : Nat} (d : decode cc pc = .ok (.ifCond .lt off, 3)) (ht : (pc : Int) + off = (tgt : Int)) (kt : x0 < 0 → zJ E x tgt lv st M) (kf : ¬ x0 < 0 → zJ E x (pc + 3) lv st M) : zJ E x pc lv (.int x0 :: st) M := fun H locs ls hl hP hS => lv_if_lt hx.1 hx.2.1 d ht (fun q => kt q H locs ls hl hP hS) (fun q => kf q H locs ls hl hP hS)
theorem z_icmp_lt (hx : zOk E x cc own nL R) {x0 y0 : Int32} {off : Int} {tgt : Nat} (d : decode cc pc = .ok (.if_icmp .lt off, 3)) (ht : (pc : Int) + off = (tgt : Int)) (kt : x0 < y0 → zJ E x tgt lv st M) (kf : ¬ x0 < y0 → zJ E x (pc + 3) lv st M) : zJ E x pc lv (.int y0 :: .int x0 :: st) M := fun H locs ls hl hP hS => lv_icmp_lt hx.1 hx.2.1 d ht (fun q => kt q H locs ls hl hP hS) (fun q => kf q H locs ls hl hP hS)
theorem z_if_ge (hx : zOk E x cc own nL R) {x0 : Int32} {off : Int} {tgt : Nat} (d : decode cc pc = .ok (.ifCond .ge off, 3)) (ht : (pc : Int) + off = (tgt : Int)) (kt : 0 ≤ x0 → zJ E x tgt lv st M) (kf : ¬ 0 ≤ x0 → zJ E x (pc + 3) lv st M) : zJ E x pc lv (.int x0 :: st) M := fun H locs ls hl hP hS => lv_if_ge hx.1 hx.2.1 d ht (fun q => kt q H locs ls hl hP hS) (fun q => kf q H locs ls hl hP hS)
theorem z_icmp_ge (hx : zOk E x cc own nL R) {x0 y0 : Int32} {off : Int} {tgt : Nat} (d : decode cc pc = .ok (.if_icmp .ge off, 3)) (ht : (pc : Int) + off = (tgt : Int)) (kt : y0 ≤ x0 → zJ E x tgt lv st M) (kf : ¬ y0 ≤ x0 → zJ E x (pc + 3) lv st M) : zJ E x pc lv (.int y0 :: .int x0 :: st) M := fun H locs ls hl hP hS => lv_icmp_ge hx.1 hx.2.1 d ht (fun q => kt q H locs ls hl hP hS) (fun q => kf q H locs ls hl hP hS)
theorem z_if_gt (hx : zOk E x cc own nL R) {x0 : Int32} {off : Int} {tgt : Nat} (d : decode cc pc = .ok (.ifCond .gt off, 3)) (ht : (pc : Int) + off = (tgt : Int)) (kt : 0 < x0 → zJ E x tgt lv st M) (kf : ¬ 0 < x0 → zJ E x (pc + 3) lv st M) : zJ E x pc lv (.int x0 :: st) M := fun H locs ls hl hP hS => lv_if_gt hx.1 hx.2.1 d ht (fun q => kt q H locs ls hl hP hS) (fun q => kf q H locs ls hl hP hS)
theorem z_icmp_gt (hx : zOk E x cc own nL R) {x0 y0 : Int32} {off : Int} {tgt : Nat} (d : decode cc pc = .ok (.if_icmp .gt off, 3)) (ht : (pc : Int) + off = (tgt : Int)) (kt : y0 < x0 → zJ E x tgt lv st M) (kf : ¬ y0 < x0 → zJ E x (pc + 3) lv st M) : zJ E x pc lv (.int y0 :: .int x0 :: st) M := fun H locs ls hl hP hS => lv_icmp_gt hx.1 hx.2.1 d ht (fun q => kt q H locs ls hl hP hS) (fun q => kf q H locs ls hl hP hS)
theorem z_if_le (hx : zOk E x cc own nL R) {x0 : Int32} {off : Int} {tgt : Nat} (d : decode cc pc = .ok (.ifCond .le off, 3)) (ht : (pc : Int) + off = (tgt : Int)) (kt : x0 ≤ 0 → zJ E x tgt lv st M) (kf : ¬ x0 ≤ 0 → zJ E x (pc + 3) lv st M) : zJ E x pc lv (.int x0 :: st) M := fun H locs ls hl hP hS => lv_if_le hx.1 hx.2.1 d ht (fun q => kt q H locs ls hl hP hS) (fun q => kf q H locs ls hl hP hS)
theorem z_icmp_le (hx : zOk E x cc own nL R) {x0 y0 : Int32} {off : Int} {tgt : Nat} (d : decode cc pc = .ok (.if_icmp .le off, 3)) (ht : (pc : Int) + off = (tgt : Int)) (kt : x0 ≤ y0 → zJ E x tgt lv st M) (kf : ¬ x0 ≤ y0 → zJ E x (pc + 3) lv st M) : zJ E x pc lv (.int y0 :: .int x0 :: st) M := fun H locs ls hl hP hS => lv_icmp_le hx.1 hx.2.1 d ht (fun q => kt q H locs ls hl hP hS) (fun q => kf q H locs ls hl hP hS)
theorem z_goto (hx : zOk E x cc own nL R) {off : Int} {tgt : Nat} (d : decode cc pc = .ok (.goto off, 3)) (ht : (pc : Int) + off = (tgt : Int)) (k : zJ E x tgt lv st M) : zJ E x pc lv st M := fun H locs ls hl hP hS => lv_goto hx.1 hx.2.1 d ht (k H locs ls hl hP hS)
theorem z_tableIn (hx : zOk E x cc own nL R) {dflt lo hi : Int} {offs : Array Int} {len : Nat} {x0 : Int32} {off : Int} {tgt : Nat} (d : decode cc pc = .ok (.tableswitch dflt lo hi offs, len)) (h1 : ¬ x0.toInt < lo) (h2 : ¬ hi < x0.toInt) (ho : offs[(x0.toInt - lo).toNat]? = some off) (ht : (pc : Int) + off = (tgt : Int)) (k : zJ E x tgt lv st M) : zJ E x pc lv (.int x0 :: st) M := fun H locs ls hl hP hS => lv_tableIn hx.1 hx.2.1 d h1 h2 ho ht (k H locs ls hl hP hS)
theorem z_tableOut (hx : zOk E x cc own nL R) {dflt lo hi : Int} {offs : Array Int} {len : Nat} {x0 : Int32} {tgt : Nat} (d : decode cc pc = .ok (.tableswitch dflt lo hi offs, len)) (h : x0.toInt < lo ∨ hi < x0.toInt) (ht : (pc : Int) + dflt = (tgt : Int)) (k : zJ E x tgt lv st M) : zJ E x pc lv (.int x0 :: st) M := fun H locs ls hl hP hS => lv_tableOut hx.1 hx.2.1 d h ht (k H locs ls hl hP hS)
theorem z_ldc2 (hx : zOk E x cc own nL R) {index : Nat} {v : Int64} (hw : Cond.constantLong own index v ∈ zU) (d : decode cc pc = .ok (.ldc2_w index, 3)) (k : zJ E x (pc + 3) lv (.long v :: st) M) : zJ E x pc lv st M := fun H locs ls hl hP hS => lv_ldc2 hx.1 hx.2.1 hx.2.2.2.1 (hx.2.2.2.2.1 _ hw) d (k H locs ls hl hP hS)
theorem z_ldcw (hx : zOk E x cc own nL R) {index : Nat} {v : Int32} (hw : Cond.constant own index v ∈ zU) (d : decode cc pc = .ok (.ldc_w index, 3)) (k : zJ E x (pc + 3) lv (.int v :: st) M) : zJ E x pc lv st M := fun H locs ls hl hP hS => lv_ldcw hx.1 hx.2.1 hx.2.2.2.1 (hx.2.2.2.2.1 _ hw) d (k H locs ls hl hP hS)
theorem z_get (hx : zOk E x cc own nL R) {c ci k N index : Nat} {C : String} {T : u_T} {fs : List Value} {v : Value} (hc : c < 100) (hs : zsh E.2.2.1 E.2.2.2 (M.1 c) (M.2 c) c = .inr (ci, fs)) (hci : vwCl[ci]? = some (C, T, N)) (hin : ∀ w ∈ u_ws C T N, w ∈ zU) (hk : k < N) (hl : Cond.fieldLink own index (T k).1 (T k).2.1 (T k).2.2.1 ∈ zU) (hv : fs[k]? = some v) (d : decode cc pc = .ok (.getfield index, 3)) (kk : zJ E x (pc + 3) lv (v :: st) M) : zJ E x pc lv (.ref (E.2.2.2 c) :: st) M := fun H locs ls hl2 hP hS =>
  va_get (C := C) (T := T) (N := N) (Ts := zU) (ref := (T k).1) hx.1 hx.2.1 hx.2.2.2.2.1 hin hx.2.2.2.1 hx.2.2.2.2.2.1.1 hP c ((zwd_get E M hc).trans (by rw [hs])) hci k hk (hx.2.2.2.2.1 _ hl) (fun _ h => h) hv d (kk H locs ls hl2 hP hS)
theorem z_put (hx : zOk E x cc own nL R) {c ci k N index : Nat} {C : String} {T : u_T} {ty0 : Nat → FieldType} {ty : FieldType} {fs : List Value} {v : Value} {g : Nat → Int32} {h : Nat → Int64} (hc : c < 100) (hs : zsh E.2.2.1 E.2.2.2 (M.1 c) (M.2 c) c = .inr (ci, fs)) (hs2 : zsh E.2.2.1 E.2.2.2 g h c = .inr (ci, fs.set k v)) (hci : vwCl[ci]? = some (C, T, N)) (hin : ∀ w ∈ u_ws C T N, w ∈ zU) (hty : ∀ k, k < N → parseFieldDescriptor (T k).2.2.1 = some (ty0 k)) (hnm : ∀ a, a < N → ∀ b, b < N → a ≠ b → (T a).2.1 ≠ (T b).2.1) (hk : k < N) (hl : Cond.fieldLink own index (T k).1 (T k).2.1 (T k).2.2.1 ∈ zU) (hfin : (T k).2.2.2 = false) (hd : parseFieldDescriptor (T k).2.2.1 = some ty) (hn : narrow ty v = v) (hfit : fits ty v = true) (hlen : k < fs.length) (d : decode cc pc = .ok (.putfield index, 3)) (kk : zJ E x (pc + 3) lv st (va_up M.1 c g, va_up M.2 c h)) : zJ E x pc lv (v :: .ref (E.2.2.2 c) :: st) M := fun H locs ls hl2 hP hS =>
  va_put (C := C) (T := T) (N := N) (Ts := zU) (ref := (T k).1) hx.1 hx.2.1 hx.2.2.2.2.1 hin ty0 hty hnm hx.2.2.2.1 hx.2.2.2.2.2.1.1 hP (zwd_D E M hx.2.2.2.2.2.2.1) hS c ((zwd_get E M hc).trans (by rw [hs])) hci k hk (hx.2.2.2.2.1 _ hl) (fun _ h => h) hfin hd hn hfit hlen d (fun H1 locs1 hP1 _ hS1 => kk H1 locs1 ls hl2 (by rw [← zwd_set E M hc g h, hs2]; exact hP1) hS1)
theorem z_iald (hx : zOk E x cc own nL R) {c n : Nat} {i : Int32} (hc : c < 100) (hs : zsh E.2.2.1 E.2.2.2 (M.1 c) (M.2 c) c = .inl (E.2.2.1 0, n, .inl (M.1 c))) (hin : vp_in i n) (d : decode cc pc = .ok (.iaload, 1)) (kk : zJ E x (pc + 1) lv (.int (M.1 c i.toNatClampNeg) :: st) M) : zJ E x pc lv (.int i :: .ref (E.2.2.2 c) :: st) M := fun H locs ls hl2 hP hS =>
  va_iald hx.1 hx.2.1 hx.2.2.2.2.2.1.1 hP c 0 ((zwd_get E M hc).trans (by rw [hs])) rfl hin d (kk H locs ls hl2 hP hS)
theorem z_zald (hx : zOk E x cc own nL R) {c n : Nat} {i : Int32} (hc : c < 100) (hs : zsh E.2.2.1 E.2.2.2 (M.1 c) (M.2 c) c = .inl (E.2.2.1 2, n, .inl (M.1 c))) (hin : vp_in i n) (d : decode cc pc = .ok (.baload, 1)) (kk : zJ E x (pc + 1) lv (.int (M.1 c i.toNatClampNeg) :: st) M) : zJ E x pc lv (.int i :: .ref (E.2.2.2 c) :: st) M := fun H locs ls hl2 hP hS =>
  va_zald hx.1 hx.2.1 hx.2.2.2.2.2.1.1 hP c 2 ((zwd_get E M hc).trans (by rw [hs])) rfl hin d (kk H locs ls hl2 hP hS)
theorem z_lald (hx : zOk E x cc own nL R) {c n : Nat} {i : Int32} (hc : c < 100) (hs : zsh E.2.2.1 E.2.2.2 (M.1 c) (M.2 c) c = .inl (E.2.2.1 1, n, .inr (.inl (M.2 c)))) (hin : vp_in i n) (d : decode cc pc = .ok (.laload, 1)) (kk : zJ E x (pc + 1) lv (.long (M.2 c i.toNatClampNeg) :: st) M) : zJ E x pc lv (.int i :: .ref (E.2.2.2 c) :: st) M := fun H locs ls hl2 hP hS =>
  va_lald hx.1 hx.2.1 hx.2.2.2.2.2.1.1 hP c 1 ((zwd_get E M hc).trans (by rw [hs])) rfl hin d (kk H locs ls hl2 hP hS)
theorem z_iast (hx : zOk E x cc own nL R) {c n : Nat} {i v : Int32} (hc : c < 100) (hs : ∀ g, zsh E.2.2.1 E.2.2.2 g (M.2 c) c = .inl (E.2.2.1 0, n, .inl g)) (hin : vp_in i n) (d : decode cc pc = .ok (.iastore, 1)) (kk : zJ E x (pc + 1) lv st (zputI M c i.toNatClampNeg v)) : zJ E x pc lv (.int v :: .int i :: .ref (E.2.2.2 c) :: st) M := fun H locs ls hl2 hP hS =>
  va_iast hx.1 hx.2.1 hx.2.2.2.2.2.1.1 hP (zwd_D E M hx.2.2.2.2.2.2.1) hS c 0 ((zwd_get E M hc).trans (by rw [hs])) rfl hin d (fun H1 locs1 hP1 _ hS1 => kk H1 locs1 ls hl2 (by
    have e := zwd_set E M hc (upd (M.1 c) i.toNatClampNeg v) (M.2 c)
    rw [zup_self, hs] at e
    unfold zputI
    rw [← e]; exact hP1) hS1)
theorem z_zast (hx : zOk E x cc own nL R) {c n : Nat} {i v : Int32} (hc : c < 100) (hs : ∀ g, zsh E.2.2.1 E.2.2.2 g (M.2 c) c = .inl (E.2.2.1 2, n, .inl g)) (hin : vp_in i n) (hv : vp_nar .boolean v = v) (d : decode cc pc = .ok (.bastore, 1)) (kk : zJ E x (pc + 1) lv st (zputI M c i.toNatClampNeg v)) : zJ E x pc lv (.int v :: .int i :: .ref (E.2.2.2 c) :: st) M := fun H locs ls hl2 hP hS =>
  va_zast hx.1 hx.2.1 hx.2.2.2.2.2.1.1 hP (zwd_D E M hx.2.2.2.2.2.2.1) hS c 2 ((zwd_get E M hc).trans (by rw [hs])) rfl hin d (fun H1 locs1 hP1 _ hS1 => kk H1 locs1 ls hl2 (by
    have e := zwd_set E M hc (upd (M.1 c) i.toNatClampNeg v) (M.2 c)
    rw [zup_self, hs] at e
    rw [hv] at hP1
    unfold zputI
    rw [← e]; exact hP1) hS1)
theorem z_last (hx : zOk E x cc own nL R) {c n : Nat} {i : Int32} {v : Int64} (hc : c < 100) (hs : ∀ h, zsh E.2.2.1 E.2.2.2 (M.1 c) h c = .inl (E.2.2.1 1, n, .inr (.inl h))) (hin : vp_in i n) (d : decode cc pc = .ok (.lastore, 1)) (kk : zJ E x (pc + 1) lv st (zputJ M c i.toNatClampNeg v)) : zJ E x pc lv (.long v :: .int i :: .ref (E.2.2.2 c) :: st) M := fun H locs ls hl2 hP hS =>
  va_last hx.1 hx.2.1 hx.2.2.2.2.2.1.1 hP (zwd_D E M hx.2.2.2.2.2.2.1) hS c 1 ((zwd_get E M hc).trans (by rw [hs])) rfl hin d (fun H1 locs1 hP1 _ hS1 => kk H1 locs1 ls hl2 (by
    have e := zwd_set E M hc (M.1 c) (vp_updL (M.2 c) i.toNatClampNeg v)
    rw [zup_self, hs] at e
    unfold zputJ
    rw [← e]; exact hP1) hS1)
theorem z_aald (hx : zOk E x cc own nL R) {c n b t0 : Nat} {cA : ClassId} {ty : FieldType} {f : Nat → Option Nat} {i : Int32} (hc : c < 100) (hs : zsh E.2.2.1 E.2.2.2 (M.1 c) (M.2 c) c = .inl (cA, n, .inr (.inr (.inr (.inr f))))) (ht : (ztys E)[t0]? = some (cA, ty)) (hr : ty.isReference = true) (hin : vp_in i n) (hf : f i.toNatClampNeg = some b) (d : decode cc pc = .ok (.aaload, 1)) (kk : zJ E x (pc + 1) lv (.ref b :: st) M) : zJ E x pc lv (.int i :: .ref (E.2.2.2 c) :: st) M := fun H locs ls hl2 hP hS => by
  have hlt : i.toNatClampNeg < n := Nat.not_le.mp fun q => hin (Or.inr q)
  have ha : (zwd E M)[c]? = some (E.2.2.2 c, .inl (cA, n, .inr (.inr (.inr (.inr f))))) := (zwd_get E M hc).trans (by rw [hs])
  exact W.aald (v := .ref b) (ty := ty) hx.1 hx.2.1 (hP c _ ha) ((hx.2.2.2.2.2.1.1.2 t0 _ ht).1 n (fun j => va_rf (f j))) hr (fun q => by cases q) (by show ¬ (i < 0 ∨ (arrV _ _ _).slots.size ≤ _); rw [arrV_size]; exact hin) (by show (arrV _ _ _).slots[_]? = _; rw [arrV_read _ _ hlt, hf]; rfl) rfl rfl d (kk H locs ls hl2 hP hS)
theorem z_copyi (hx : zOk E x cc own nL R) {c0 c1 n0 n1 index : Nat} {sp dp n : Int32} (hc0 : c0 < 100) (hc1 : c1 < 100) (hs0 : zsh E.2.2.1 E.2.2.2 (M.1 c0) (M.2 c0) c0 = .inl (E.2.2.1 0, n0, .inl (M.1 c0))) (hs1 : ∀ g, zsh E.2.2.1 E.2.2.2 g (M.2 c1) c1 = .inl (E.2.2.1 0, n1, .inl g)) (hl : Cond.methodLink own index arraycopyName ∈ zU) (h1 : ¬ sp < 0) (h2 : ¬ dp < 0) (h3 : ¬ n < 0) (h4 : sp.toNatClampNeg + n.toNatClampNeg ≤ n0) (h5 : dp.toNatClampNeg + n.toNatClampNeg ≤ n1) (hfr : 1 ≤ R.frames) (hlo : (st.map fun v => v.category).sum + (nativeFrameWords "java/lang/System" "arraycopy" 5 + 11) ≤ R.locals) (d : decode cc pc = .ok (.invokestatic index, 3)) (kk : zJ E x (pc + 3) lv st (zsetI M c1 (va_cpy (M.1 c0) (M.1 c1) sp.toNatClampNeg dp.toNatClampNeg n.toNatClampNeg))) : zJ E x pc lv (.int n :: .int dp :: .ref (E.2.2.2 c1) :: .int sp :: .ref (E.2.2.2 c0) :: st) M := fun H locs ls hl2 hP hS =>
  va_copyi (ty := .int) hx.1 hx.2.1 hl2.1.symm hx.2.2.2.1 (hx.2.2.2.2.1 _ hl) (hx.2.2.2.2.1 _ zcp_nat) (hx.2.2.2.2.1 _ zcp_st) (hx.2.2.2.2.1 _ zcp_in) hx.2.2.2.2.2.1.1 hP (zwd_D E M hx.2.2.2.2.2.2.1) hS c0 c1 0 0 ((zwd_get E M hc0).trans (by rw [hs0])) ((zwd_get E M hc1).trans (by rw [hs1])) rfl rfl rfl h1 h2 h3 h4 h5 (fun _ _ => rfl) (by rw [hx.2.2.2.2.2.2.2]; exact hfr) (by rw [hx.2.2.2.2.2.2.2]; exact hlo) d (fun H1 locs1 hP1 _ hS1 => kk H1 locs1 ls hl2 (by
    have e := zwd_set E M hc1 (va_cpy (M.1 c0) (M.1 c1) sp.toNatClampNeg dp.toNatClampNeg n.toNatClampNeg) (M.2 c1)
    rw [zup_self, hs1] at e
    unfold zsetI
    rw [← e]; exact hP1) hS1)
theorem z_copyl (hx : zOk E x cc own nL R) {c0 c1 n0 n1 index : Nat} {sp dp n : Int32} (hc0 : c0 < 100) (hc1 : c1 < 100) (hs0 : zsh E.2.2.1 E.2.2.2 (M.1 c0) (M.2 c0) c0 = .inl (E.2.2.1 1, n0, .inr (.inl (M.2 c0)))) (hs1 : ∀ h, zsh E.2.2.1 E.2.2.2 (M.1 c1) h c1 = .inl (E.2.2.1 1, n1, .inr (.inl h))) (hl : Cond.methodLink own index arraycopyName ∈ zU) (h1 : ¬ sp < 0) (h2 : ¬ dp < 0) (h3 : ¬ n < 0) (h4 : sp.toNatClampNeg + n.toNatClampNeg ≤ n0) (h5 : dp.toNatClampNeg + n.toNatClampNeg ≤ n1) (hfr : 1 ≤ R.frames) (hlo : (st.map fun v => v.category).sum + (nativeFrameWords "java/lang/System" "arraycopy" 5 + 11) ≤ R.locals) (d : decode cc pc = .ok (.invokestatic index, 3)) (kk : zJ E x (pc + 3) lv st (zsetJ M c1 (va_cpy (M.2 c0) (M.2 c1) sp.toNatClampNeg dp.toNatClampNeg n.toNatClampNeg))) : zJ E x pc lv (.int n :: .int dp :: .ref (E.2.2.2 c1) :: .int sp :: .ref (E.2.2.2 c0) :: st) M := fun H locs ls hl2 hP hS =>
  va_copyl (ty := .long) hx.1 hx.2.1 hl2.1.symm hx.2.2.2.1 (hx.2.2.2.2.1 _ hl) (hx.2.2.2.2.1 _ zcp_nat) (hx.2.2.2.2.1 _ zcp_st) (hx.2.2.2.2.1 _ zcp_in) hx.2.2.2.2.2.1.1 hP (zwd_D E M hx.2.2.2.2.2.2.1) hS c0 c1 1 1 ((zwd_get E M hc0).trans (by rw [hs0])) ((zwd_get E M hc1).trans (by rw [hs1])) rfl rfl rfl h1 h2 h3 h4 h5 (fun _ _ => rfl) (by rw [hx.2.2.2.2.2.2.2]; exact hfr) (by rw [hx.2.2.2.2.2.2.2]; exact hlo) d (fun H1 locs1 hP1 _ hS1 => kk H1 locs1 ls hl2 (by
    have e := zwd_set E M hc1 (M.1 c1) (va_cpy (M.2 c0) (M.2 c1) sp.toNatClampNeg dp.toNatClampNeg n.toNatClampNeg)
    rw [zup_self, hs1] at e
    unfold zsetJ
    rw [← e]; exact hP1) hS1)
theorem z_min (hx : zOk E x cc own nL R) {index : Nat} {a b : Int32} (hl : Cond.methodLink own index Lib.Math.min.name ∈ zU) (hfr : 1 ≤ R.frames) (hlo : (st.map fun v => v.category).sum + 13 ≤ R.locals) (d : decode cc pc = .ok (.invokestatic index, 3)) (kk : zJ E x (pc + 3) lv (.int (if b < a then b else a) :: st) M) : zJ E x pc lv (.int b :: .int a :: st) M := fun H locs ls hl2 hP hS =>
  va_mmin hx.1 hx.2.1 hl2.1.symm hx.2.2.2.1 (hx.2.2.2.2.1 _ hl) (hx.2.2.2.2.1 _ zw_258) (hx.2.2.2.2.1 _ zw_46) (hx.2.2.2.2.1 _ zw_259) (by rw [hx.2.2.2.2.2.2.2]; exact hfr) (by rw [hx.2.2.2.2.2.2.2]; exact hlo) (Nat.zero_le _) (Nat.zero_le _) d (kk H locs ls hl2 hP hS)
theorem z_abs (hx : zOk E x cc own nL R) {index : Nat} {a : Int64} (hl : Cond.methodLink own index Lib.MathLoose.abs_long.x ∈ zU) (hfr : 1 ≤ R.frames) (hlo : (st.map fun v => v.category).sum + 13 ≤ R.locals) (d : decode cc pc = .ok (.invokestatic index, 3)) (kk : zJ E x (pc + 3) lv (.long (if 0 < a then a else -a) :: st) M) : zJ E x pc lv (.long a :: st) M := fun H locs ls hl2 hP hS =>
  va_mabs_long hx.1 hx.2.1 hl2.1.symm hx.2.2.2.1 (hx.2.2.2.2.1 _ hl) (hx.2.2.2.2.1 _ zw_417) (hx.2.2.2.2.1 _ zw_46) (hx.2.2.2.2.1 _ zw_418) (by rw [hx.2.2.2.2.2.2.2]; exact hfr) (by rw [hx.2.2.2.2.2.2.2]; exact hlo) (Nat.zero_le _) (Nat.zero_le _) d (kk H locs ls hl2 hP hS)
theorem z_eqi {a b : Int32} (h : a = b) (k : zJ E x pc lv (.int b :: st) M) : zJ E x pc lv (.int a :: st) M := h ▸ k
theorem z_eql {a b : Int64} (h : a = b) (k : zJ E x pc lv (.long b :: st) M) : zJ E x pc lv (.long a :: st) M := h ▸ k
theorem z_nmi {a : Int32} (k : ∀ v : Int32, v = a → zJ E x pc lv (.int v :: st) M) : zJ E x pc lv (.int a :: st) M := k a rfl
theorem z_nml {a : Int64} (k : ∀ v : Int64, v = a → zJ E x pc lv (.long v :: st) M) : zJ E x pc lv (.long a :: st) M := k a rfl
theorem z_nmM (k : ∀ M1 : zM, M1 = M → zJ E x pc lv st M1) : zJ E x pc lv st M := k M rfl
theorem z_to {lv2 : List (Nat × Value)} {M2 : zM} (k : zJ E x pc lv2 st M2) (ks : List Nat) (h : lv_pick lv ks = lv2) (hM : M = M2) : zJ E x pc lv st M := hM ▸ (z_lv ks h k)
theorem z_iconst_n (hx : zOk E x cc own nL R) {n : Int} {v : Nat} (d : decode cc pc = .ok (.iconst n, 1)) (hv : Int32.ofInt n = nI v) (k : zJ E x (pc + 1) lv (.int (nI v) :: st) M) : zJ E x pc lv st M := z_iconst hx d hv k
theorem z_iadd_n (hx : zOk E x cc own nL R) {a b : Nat} (d : decode cc pc = .ok (.iadd, 1)) (k : zJ E x (pc + 1) lv (.int (nI (a + b)) :: st) M) : zJ E x pc lv (.int (nI b) :: .int (nI a) :: st) M := z_iadd hx d (by rw [nI_add]; exact k)
theorem z_imul_n (hx : zOk E x cc own nL R) {a b : Nat} (d : decode cc pc = .ok (.imul, 1)) (k : zJ E x (pc + 1) lv (.int (nI (a * b)) :: st) M) : zJ E x pc lv (.int (nI b) :: .int (nI a) :: st) M := z_imul hx d (by rw [pk_mul]; exact k)
theorem z_isub_n (hx : zOk E x cc own nL R) {a b : Nat} (h : b ≤ a) (d : decode cc pc = .ok (.isub, 1)) (k : zJ E x (pc + 1) lv (.int (nI (a - b)) :: st) M) : zJ E x pc lv (.int (nI b) :: .int (nI a) :: st) M := z_isub hx d (by rw [pk_sub h]; exact k)
theorem z_idiv_n (hx : zOk E x cc own nL R) {a b : Nat} (ha : a < 2 ^ 31) (h0 : 0 < b) (hb : b < 2 ^ 31) (d : decode cc pc = .ok (.idiv, 1)) (k : zJ E x (pc + 1) lv (.int (nI (a / b)) :: st) M) : zJ E x pc lv (.int (nI b) :: .int (nI a) :: st) M := z_idiv hx d (nI_ne0 h0 hb) (by rw [pk_div ha h0 hb]; exact k)
theorem z_irem_n (hx : zOk E x cc own nL R) {a b : Nat} (ha : a < 2 ^ 31) (h0 : 0 < b) (hb : b < 2 ^ 31) (d : decode cc pc = .ok (.irem, 1)) (k : zJ E x (pc + 1) lv (.int (nI (a % b)) :: st) M) : zJ E x pc lv (.int (nI b) :: .int (nI a) :: st) M := z_irem hx d (nI_ne0 h0 hb) (by rw [pk_rem ha h0 hb]; exact k)
theorem z_inc (k : Nat) : nI k + Int32.ofInt 1 = nI (k + 1) := nI_1 k
theorem z_dec (k : Nat) : nI (k + 1) + Int32.ofInt (-1) = nI k := pk_m1 k
theorem z_icmp_eq_n (hx : zOk E x cc own nL R) {a b : Nat} {off : Int} {tgt : Nat} (ha : a < 2 ^ 31) (hb : b < 2 ^ 31) (d : decode cc pc = .ok (.if_icmp .eq off, 3)) (ht : (pc : Int) + off = (tgt : Int)) (kt : a = b → zJ E x tgt lv st M) (kf : ¬ a = b → zJ E x (pc + 3) lv st M) : zJ E x pc lv (.int (nI b) :: .int (nI a) :: st) M := z_icmp_eq hx d ht (fun q => kt (by first | exact (nI_eq ha hb).mp q | exact (Nat.not_lt.mp (fun e => q ((nI_ltI ha hb).mpr e))) | exact (Nat.not_le.mp (fun e => q ((nI_leI ha hb).mpr e))))) (fun q => kf (by first | exact fun e => q ((nI_eq ha hb).mpr e) | exact (nI_leI hb ha).mp q | exact (nI_ltI hb ha).mp q | exact (nI_ltI ha hb).mp q | exact (nI_leI ha hb).mp q))
theorem z_icmp_ne_n (hx : zOk E x cc own nL R) {a b : Nat} {off : Int} {tgt : Nat} (ha : a < 2 ^ 31) (hb : b < 2 ^ 31) (d : decode cc pc = .ok (.if_icmp .ne off, 3)) (ht : (pc : Int) + off = (tgt : Int)) (kt : ¬ a = b → zJ E x tgt lv st M) (kf : a = b → zJ E x (pc + 3) lv st M) : zJ E x pc lv (.int (nI b) :: .int (nI a) :: st) M := z_icmp_ne hx d ht (fun q => kt (by first | exact fun e => q ((nI_eq ha hb).mpr e) | exact (Nat.not_lt.mp (fun e => q ((nI_ltI ha hb).mpr e))) | exact (Nat.not_le.mp (fun e => q ((nI_leI ha hb).mpr e))))) (fun q => kf (by first | exact (nI_eq ha hb).mp q | exact (nI_leI hb ha).mp q | exact (nI_ltI hb ha).mp q | exact (nI_ltI ha hb).mp q | exact (nI_leI ha hb).mp q))
theorem z_icmp_lt_n (hx : zOk E x cc own nL R) {a b : Nat} {off : Int} {tgt : Nat} (ha : a < 2 ^ 31) (hb : b < 2 ^ 31) (d : decode cc pc = .ok (.if_icmp .lt off, 3)) (ht : (pc : Int) + off = (tgt : Int)) (kt : a < b → zJ E x tgt lv st M) (kf : b ≤ a → zJ E x (pc + 3) lv st M) : zJ E x pc lv (.int (nI b) :: .int (nI a) :: st) M := z_icmp_lt hx d ht (fun q => kt (by first | exact (nI_ltI ha hb).mp q | exact (Nat.not_lt.mp (fun e => q ((nI_ltI ha hb).mpr e))) | exact (Nat.not_le.mp (fun e => q ((nI_leI ha hb).mpr e))))) (fun q => kf (by first | exact Nat.not_lt.mp (fun e => q ((nI_ltI ha hb).mpr e)) | exact (nI_leI hb ha).mp q | exact (nI_ltI hb ha).mp q | exact (nI_ltI ha hb).mp q | exact (nI_leI ha hb).mp q))
theorem z_icmp_ge_n (hx : zOk E x cc own nL R) {a b : Nat} {off : Int} {tgt : Nat} (ha : a < 2 ^ 31) (hb : b < 2 ^ 31) (d : decode cc pc = .ok (.if_icmp .ge off, 3)) (ht : (pc : Int) + off = (tgt : Int)) (kt : b ≤ a → zJ E x tgt lv st M) (kf : a < b → zJ E x (pc + 3) lv st M) : zJ E x pc lv (.int (nI b) :: .int (nI a) :: st) M := z_icmp_ge hx d ht (fun q => kt (by first | exact (nI_leI hb ha).mp q | exact (Nat.not_lt.mp (fun e => q ((nI_ltI ha hb).mpr e))) | exact (Nat.not_le.mp (fun e => q ((nI_leI ha hb).mpr e))))) (fun q => kf (by first | exact Nat.not_le.mp (fun e => q ((nI_leI hb ha).mpr e)) | exact (nI_leI hb ha).mp q | exact (nI_ltI hb ha).mp q | exact (nI_ltI ha hb).mp q | exact (nI_leI ha hb).mp q))
theorem z_icmp_gt_n (hx : zOk E x cc own nL R) {a b : Nat} {off : Int} {tgt : Nat} (ha : a < 2 ^ 31) (hb : b < 2 ^ 31) (d : decode cc pc = .ok (.if_icmp .gt off, 3)) (ht : (pc : Int) + off = (tgt : Int)) (kt : b < a → zJ E x tgt lv st M) (kf : a ≤ b → zJ E x (pc + 3) lv st M) : zJ E x pc lv (.int (nI b) :: .int (nI a) :: st) M := z_icmp_gt hx d ht (fun q => kt (by first | exact (nI_ltI hb ha).mp q | exact (Nat.not_lt.mp (fun e => q ((nI_ltI ha hb).mpr e))) | exact (Nat.not_le.mp (fun e => q ((nI_leI ha hb).mpr e))))) (fun q => kf (by first | exact Nat.not_lt.mp (fun e => q ((nI_ltI hb ha).mpr e)) | exact (nI_leI hb ha).mp q | exact (nI_ltI hb ha).mp q | exact (nI_ltI ha hb).mp q | exact (nI_leI ha hb).mp q))
theorem z_icmp_le_n (hx : zOk E x cc own nL R) {a b : Nat} {off : Int} {tgt : Nat} (ha : a < 2 ^ 31) (hb : b < 2 ^ 31) (d : decode cc pc = .ok (.if_icmp .le off, 3)) (ht : (pc : Int) + off = (tgt : Int)) (kt : a ≤ b → zJ E x tgt lv st M) (kf : b < a → zJ E x (pc + 3) lv st M) : zJ E x pc lv (.int (nI b) :: .int (nI a) :: st) M := z_icmp_le hx d ht (fun q => kt (by first | exact (nI_leI ha hb).mp q | exact (Nat.not_lt.mp (fun e => q ((nI_ltI ha hb).mpr e))) | exact (Nat.not_le.mp (fun e => q ((nI_leI ha hb).mpr e))))) (fun q => kf (by first | exact Nat.not_le.mp (fun e => q ((nI_leI ha hb).mpr e)) | exact (nI_leI hb ha).mp q | exact (nI_ltI hb ha).mp q | exact (nI_ltI ha hb).mp q | exact (nI_leI ha hb).mp q))
theorem z_if_eq_n (hx : zOk E x cc own nL R) {a : Nat} {off : Int} {tgt : Nat} (ha : a < 2 ^ 31) (d : decode cc pc = .ok (.ifCond .eq off, 3)) (ht : (pc : Int) + off = (tgt : Int)) (kt : a = 0 → zJ E x tgt lv st M) (kf : ¬ a = 0 → zJ E x (pc + 3) lv st M) : zJ E x pc lv (.int (nI a) :: st) M := z_if_eq hx d ht (fun q => kt (by rw [← nI_0] at q; exact (nI_eq ha (by decide)).mp q)) (fun q => kf (fun e => q (by rw [e]; exact nI_0)))
theorem z_if_ne_n (hx : zOk E x cc own nL R) {a : Nat} {off : Int} {tgt : Nat} (ha : a < 2 ^ 31) (d : decode cc pc = .ok (.ifCond .ne off, 3)) (ht : (pc : Int) + off = (tgt : Int)) (kt : ¬ a = 0 → zJ E x tgt lv st M) (kf : a = 0 → zJ E x (pc + 3) lv st M) : zJ E x pc lv (.int (nI a) :: st) M := z_if_ne hx d ht (fun q => kt (fun e => q (by rw [e]; exact nI_0))) (fun q => kf (by rw [← nI_0] at q; exact (nI_eq ha (by decide)).mp q))
theorem z_if_lt_n (hx : zOk E x cc own nL R) {a : Nat} {off : Int} {tgt : Nat} (ha : a < 2 ^ 31) (d : decode cc pc = .ok (.ifCond .lt off, 3)) (ht : (pc : Int) + off = (tgt : Int)) (kf : zJ E x (pc + 3) lv st M) : zJ E x pc lv (.int (nI a) :: st) M := z_if_lt hx d ht (fun q => absurd q (nI_pos ha)) (fun _ => kf)
def zIA (E : zE) (c n : Nat) : Prop := c < 100 ∧ n < 2 ^ 31 ∧ ∀ g h, zsh E.2.2.1 E.2.2.2 g h c = .inl (E.2.2.1 0, n, .inl g)
def zZA (E : zE) (c n : Nat) : Prop := c < 100 ∧ n < 2 ^ 31 ∧ ∀ g h, zsh E.2.2.1 E.2.2.2 g h c = .inl (E.2.2.1 2, n, .inl g)
def zJA (E : zE) (c n : Nat) : Prop := c < 100 ∧ n < 2 ^ 31 ∧ ∀ g h, zsh E.2.2.1 E.2.2.2 g h c = .inl (E.2.2.1 1, n, .inr (.inl h))
def zRA (E : zE) (c n b s t0 : Nat) : Prop := c < 100 ∧ n < 2 ^ 31 ∧ (∃ ty, (ztys E)[t0]? = some (E.2.2.1 t0, ty) ∧ ty.isReference = true) ∧ ∀ g h, zsh E.2.2.1 E.2.2.2 g h c = .inl (E.2.2.1 t0, n, .inr (.inr (.inr (.inr (fun i => if i < n then some (E.2.2.2 (b + s * i)) else none)))))
def zOB (E : zE) (c ci : Nat) : Prop := c < 100 ∧ ∀ g h, ∃ fs, zsh E.2.2.1 E.2.2.2 g h c = .inr (ci, fs)
theorem z_iald_n (hx : zOk E x cc own nL R) {c n k : Nat} (ha : zIA E c n) (hk : k < n) (d : decode cc pc = .ok (.iaload, 1)) (kk : zJ E x (pc + 1) lv (.int (M.1 c k) :: st) M) : zJ E x pc lv (.int (nI k) :: .ref (E.2.2.2 c) :: st) M := z_iald hx ha.1 (ha.2.2 _ _) (vp_in_nI hk ha.2.1) d (by rw [nI_clamp (Nat.lt_trans hk ha.2.1)]; exact kk)
theorem z_zald_n (hx : zOk E x cc own nL R) {c n k : Nat} (ha : zZA E c n) (hk : k < n) (d : decode cc pc = .ok (.baload, 1)) (kk : zJ E x (pc + 1) lv (.int (M.1 c k) :: st) M) : zJ E x pc lv (.int (nI k) :: .ref (E.2.2.2 c) :: st) M := z_zald hx ha.1 (ha.2.2 _ _) (vp_in_nI hk ha.2.1) d (by rw [nI_clamp (Nat.lt_trans hk ha.2.1)]; exact kk)
theorem z_lald_n (hx : zOk E x cc own nL R) {c n k : Nat} (ha : zJA E c n) (hk : k < n) (d : decode cc pc = .ok (.laload, 1)) (kk : zJ E x (pc + 1) lv (.long (M.2 c k) :: st) M) : zJ E x pc lv (.int (nI k) :: .ref (E.2.2.2 c) :: st) M := z_lald hx ha.1 (ha.2.2 _ _) (vp_in_nI hk ha.2.1) d (by rw [nI_clamp (Nat.lt_trans hk ha.2.1)]; exact kk)
theorem z_iast_n (hx : zOk E x cc own nL R) {c n k : Nat} {v : Int32} (ha : zIA E c n) (hk : k < n) (d : decode cc pc = .ok (.iastore, 1)) (kk : zJ E x (pc + 1) lv st (zputI M c k v)) : zJ E x pc lv (.int v :: .int (nI k) :: .ref (E.2.2.2 c) :: st) M := z_iast hx ha.1 (fun g => ha.2.2 g _) (vp_in_nI hk ha.2.1) d (by rw [nI_clamp (Nat.lt_trans hk ha.2.1)]; exact kk)
theorem z_zast_n (hx : zOk E x cc own nL R) {c n k : Nat} {v : Int32} (ha : zZA E c n) (hk : k < n) (hv : v = 0 ∨ v = 1) (d : decode cc pc = .ok (.bastore, 1)) (kk : zJ E x (pc + 1) lv st (zputI M c k v)) : zJ E x pc lv (.int v :: .int (nI k) :: .ref (E.2.2.2 c) :: st) M := z_zast hx ha.1 (fun g => ha.2.2 g _) (vp_in_nI hk ha.2.1) (by rcases hv with e | e <;> rw [e] <;> rfl) d (by rw [nI_clamp (Nat.lt_trans hk ha.2.1)]; exact kk)
theorem z_last_n (hx : zOk E x cc own nL R) {c n k : Nat} {v : Int64} (ha : zJA E c n) (hk : k < n) (d : decode cc pc = .ok (.lastore, 1)) (kk : zJ E x (pc + 1) lv st (zputJ M c k v)) : zJ E x pc lv (.long v :: .int (nI k) :: .ref (E.2.2.2 c) :: st) M := z_last hx ha.1 (fun h => ha.2.2 _ h) (vp_in_nI hk ha.2.1) d (by rw [nI_clamp (Nat.lt_trans hk ha.2.1)]; exact kk)
theorem z_aald_n (hx : zOk E x cc own nL R) {c n b s t0 k : Nat} (ha : zRA E c n b s t0) (hk : k < n) (d : decode cc pc = .ok (.aaload, 1)) (kk : zJ E x (pc + 1) lv (.ref (E.2.2.2 (b + s * k)) :: st) M) : zJ E x pc lv (.int (nI k) :: .ref (E.2.2.2 c) :: st) M := by
  obtain ⟨hc, hn, ⟨ty, ht, hr⟩, hs⟩ := ha
  exact z_aald hx hc (hs _ _) ht hr (vp_in_nI hk hn) (by rw [nI_clamp (Nat.lt_trans hk hn), if_pos hk]) d kk
end ZJ
abbrev zQ (E : zE) (P : Option Value → zM → Prop) : Array Value → State → Outcome → State → Prop := fun _ s0 oc t => (∃ (r : Option Value) (M2 : zM), oc = .returned r ∧ P r M2 ∧ va_P E.2.1 vwCl (zwd E M2) t.heap) ∧ va_F (zA E) s0 t
/-- a contract: called with av in memory M the method answers r, the memory is M2, and P r M2 -/
def zK (E : zE) (y : MethodName) (cd : Cond) (rm : Room) (av : List Value) (M : zM) (P : Option Value → zM → Prop) : Prop :=
  Met E.1 y (cd :: zU) rm (va_Pc av (fun U => va_P E.2.1 vwCl (zwd E M) U.heap ∧ zG E U)) (zQ E P) 0 0 (zA E)
abbrev zpi (P : Int32 → zM → Prop) : Option Value → zM → Prop := fun r M2 => ∃ v : Int32, r = some (.int v) ∧ P v M2
abbrev zpl (P : Int64 → zM → Prop) : Option Value → zM → Prop := fun r M2 => ∃ v : Int64, r = some (.long v) ∧ P v M2
abbrev zpv (P : zM → Prop) : Option Value → zM → Prop := fun r M2 => r = none ∧ P M2
def zrm (f l : Nat) : Room := { frames := f, cells := 0, slots := 0, locals := l }
theorem zBlind (E : zE) (M : zM) (av : List Value) : FrameBlind (va_Pc av (fun U => va_P E.2.1 vwCl (zwd E M) U.heap ∧ zG E U)) := fun a U g mk q => by
  obtain ⟨q0, qP, qK, qN⟩ := q
  exact ⟨q0, qP, va_K.moved (u := U) (U := U.calling g mk a) (Vm.Alike.refl U.vm) qK, va_Nw.same (u := U) (U := U.calling g mk a) rfl rfl qN⟩
theorem zG.warm {E : zE} {s U : State} (h : zG E s) (hW : s.WarmedH U.vm) : zG E U := ⟨va_K.moved hW.alike h.1, va_Nw.warmM hW h.2⟩
def zYV (y : MethodName) (bytes : ByteArray) (maxL : Nat) (ret : Option FieldType) (n : Nat) : Prop := Cond.instanceMethod y ∈ zU ∧ Cond.selects y.cls y y ∈ zU ∧ Cond.initialized y.cls ∈ zU ∧ Cond.code y bytes maxL ret ∈ zU ∧ (y.cls ≠ "java/lang/invoke/MethodHandle" ∧ y.cls ≠ "java/lang/invoke/VarHandle") ∧ (parseMethodDescriptor y.desc).map (fun d => d.parameters.length) = some n
def zYS (y : MethodName) (bytes : ByteArray) (maxL : Nat) (ret : Option FieldType) (n : Nat) : Prop := Cond.static y ∈ zU ∧ Cond.initialized y.cls ∈ zU ∧ Cond.code y bytes maxL ret ∈ zU ∧ (y.cls ≠ "java/lang/invoke/MethodHandle" ∧ y.cls ≠ "java/lang/invoke/VarHandle") ∧ (parseMethodDescriptor y.desc).map (fun d => d.parameters.length) = some n
section ZC
variable {E : zE} {x : zX} {cc : ByteArray} {own : String} {nL : Nat} {R : Room} {pc : Nat} {lv : List (Nat × Value)} {st : List Value} {M : zM}
theorem z_run {H : Heap} {locs : List Loc} {ls : Array Slot} {st0 : List Value} {P : Option Value → zM → Prop} (hr : va_Run x.1 E.1 x.2.1 x.2.2.1 x.2.2.2.1 x.2.2.2.2.1 x.2.2.2.2.2.1 x.2.2.2.2.2.2.1 x.2.2.2.2.2.2.2.1 x.2.2.2.2.2.2.2.2.1 H locs 0 0 0 0 (F0 x.2.2.2.2.1 pc ls st0) st (fun s0 oc t => (∃ (r : Option Value) (M2 : zM), oc = .returned r ∧ P r M2 ∧ va_P E.2.1 vwCl (zwd E M2) t.heap) ∧ va_F (zA E) s0 t) (zA E)) (hl : lv_has ls x.2.2.2.2.2.2.2.2.1.maxLocals lv) (hS : va_S (zA E) x.2.2.2.1.heap H locs) (kk : ∀ (r : Option Value) (M2 : zM), P r M2 → zJ E x (pc + 3) lv (r.toList ++ st) M2) : W x.1 E.1 x.2.1 x.2.2.1 x.2.2.2.1 x.2.2.2.2.1 x.2.2.2.2.2.1 x.2.2.2.2.2.2.1 x.2.2.2.2.2.2.2.1 x.2.2.2.2.2.2.2.2.1 H locs 0 0 x.2.2.2.2.2.2.2.2.2 (F0 x.2.2.2.2.1 pc ls st0) := by
  intro T hT X
  obtain ⟨v, st₀, t, T', L, h0, X', hL, e1, e2, ⟨⟨r, M2, hv, hp, hb⟩, hz, hk⟩, stp⟩ := hr T hT X
  cases hv
  rw [h0] at hz hk
  obtain ⟨t2, a1, b1⟩ := kk _ M2 hp T'.heap (locs ++ L) ls hl (by rw [e1]; exact hb)
    ⟨Nat.le_trans hS.1 (by rw [e1]; exact hz), fun q h1 h2 => by rw [e1, hk q (Nat.lt_of_lt_of_le h1 hS.1) h2]; exact hS.2.1 q h1 h2, fun q hq => by
      rcases List.mem_append.mp hq with h | h
      · exact hS.2.2 q h
      · exact hL q h⟩ T' rfl X'
  exact ⟨t2, stp t2 a1, b1⟩
theorem zU_cons {cd : Cond} (hc : cd ∈ zU) : GoodIn zU (cd :: zU) := fun w hw => by
  rcases List.mem_cons.mp hw with rfl | h
  · exact ⟨hc, zU_good hc⟩
  · exact ⟨h, zU_good h⟩
theorem z_callV (hx : zOk E x cc own nL R) {y : MethodName} {bytes : ByteArray} {maxL index n c ci : Nat} {q : vw_C} {ret : Option FieldType} {rm : Room} {As stk : List Value} {P : Option Value → zM → Prop} (hM : zK E y (.code y bytes maxL ret) rm (.ref (E.2.2.2 c) :: As) M P)
    (w1 : Cond.methodLink own index y ∈ zU) (hy : zYV y bytes maxL ret n) (hrm : rm.cells = 0 ∧ rm.slots = 0) (hR : rm.frames + 1 ≤ R.frames ∧ 8 + (maxL + 11) + rm.locals ≤ R.locals)
    (hob : zOB E c ci) (hci : vwCl[ci]? = some q) (hq : q.1 = y.cls) (hn : As.length = n) (hstk : stk = As.reverse ++ .ref (E.2.2.2 c) :: st) (hW : (st.map fun v => v.category).sum ≤ 8) (d : decode cc pc = .ok (.invokevirtual index, 3)) (kk : ∀ (r : Option Value) (M2 : zM), P r M2 → zJ E x (pc + 3) lv (r.toList ++ st) M2) : zJ E x pc lv stk M := fun H locs ls hl2 hP hS => by
  subst hstk
  obtain ⟨w2, w3, w4, w5, hd⟩ := hy
  obtain ⟨hc, hs⟩ := hob
  obtain ⟨fs, hs⟩ := hs (M.1 c) (M.2 c)
  refine z_run (va_runV (bytes := bytes) (maxL := maxL) (ret := ret) (C := y.cls) (As := As) (rest := st) ⟨hx.1, hx.2.1, hx.2.2.1, hx.2.2.2.1, hx.2.2.2.2.1⟩ hM ?_ ⟨zBlind E M _, ?_, fun U hU hWm => ⟨rfl, by rw [hU]; exact hP, hx.2.2.2.2.2.1.warm hWm⟩⟩ rfl hn (by show ls.size = nL; rw [hl2.1, hx.2.2.1]) rfl (lv_room hW) d ⟨by show 0 ≤ _; exact Nat.zero_le _, by show 0 ≤ _; exact Nat.zero_le _⟩) hl2 hS kk
  · have hR' : rm.frames + 1 ≤ x.2.2.1.frames ∧ 8 + (maxL + 11) + rm.locals ≤ x.2.2.1.locals := by rw [hx.2.2.2.2.2.2.2]; exact hR
    exact ⟨callB_of n hx.2.2.2.2.1 (zU_cons w5) rfl hrm.1 hrm.2 (hx.2.2.2.2.1 _ w4) (hx.2.2.2.2.1 _ w1) ⟨hd.1.1, hd.1.2, hd.2⟩ hR', hx.2.2.2.2.1 _ w2, hx.2.2.2.2.1 _ w3⟩
  · rw [← hq]
    exact va_recv hx.2.2.2.2.2.1.1 hP hci ((zwd_get E M hc).trans (by rw [hs]))
theorem z_callS (hx : zOk E x cc own nL R) {y : MethodName} {bytes : ByteArray} {maxL index n : Nat} {ret : Option FieldType} {rm : Room} {As stk : List Value} {P : Option Value → zM → Prop} (hM : zK E y (.code y bytes maxL ret) rm As M P)
    (w1 : Cond.methodLink own index y ∈ zU) (hy : zYS y bytes maxL ret n) (hrm : rm.cells = 0 ∧ rm.slots = 0) (hR : rm.frames + 1 ≤ R.frames ∧ 8 + (maxL + 11) + rm.locals ≤ R.locals)
    (hn : As.length = n) (hstk : stk = As.reverse ++ st) (hW : (st.map fun v => v.category).sum ≤ 8) (d : decode cc pc = .ok (.invokestatic index, 3)) (kk : ∀ (r : Option Value) (M2 : zM), P r M2 → zJ E x (pc + 3) lv (r.toList ++ st) M2) : zJ E x pc lv stk M := fun H locs ls hl2 hP hS => by
  subst hstk
  obtain ⟨w2, w4, w5, hd⟩ := hy
  refine z_run (va_runS (bytes := bytes) (maxL := maxL) (ret := ret) (As := As) (rest := st) ⟨hx.1, hx.2.1, hx.2.2.1, hx.2.2.2.1, hx.2.2.2.2.1⟩ hM ?_ ⟨zBlind E M _, fun U hU hWm => ⟨rfl, by rw [hU]; exact hP, hx.2.2.2.2.2.1.warm hWm⟩⟩ rfl hn (by show ls.size = nL; rw [hl2.1, hx.2.2.1]) rfl (lv_room hW) d ⟨by show 0 ≤ _; exact Nat.zero_le _, by show 0 ≤ _; exact Nat.zero_le _⟩) hl2 hS kk
  have hR' : rm.frames + 1 ≤ x.2.2.1.frames ∧ 8 + (maxL + 11) + rm.locals ≤ x.2.2.1.locals := by rw [hx.2.2.2.2.2.2.2]; exact hR
  exact ⟨callB_of n hx.2.2.2.2.1 (zU_cons w5) rfl hrm.1 hrm.2 (hx.2.2.2.2.1 _ w4) (hx.2.2.2.2.1 _ w1) ⟨hd.1.1, hd.1.2, hd.2⟩ hR', hx.2.2.2.2.1 _ w2⟩
theorem z_callN (hx : zOk E x cc RX1 nL R) {bytes : ByteArray} {maxL : Nat} {ret : Option FieldType} {rm : Room} {As stk : List Value} {P : Option Value → zM → Prop} (hM : zK E yX5_isLess (.code yX5_isLess bytes maxL ret) rm As M P)
    (hy : zYS yX5_isLess bytes maxL ret 4) (hrm : rm.cells = 0 ∧ rm.slots = 0) (hR : rm.frames + 1 ≤ R.frames ∧ 8 + (maxL + 11) + rm.locals ≤ R.locals)
    (hn : As.length = 4) (hstk : stk = As.reverse ++ st) (hW : (st.map fun v => v.category).sum ≤ 8) (d : decode cc pc = .ok (.invokestatic 95, 3)) (kk : ∀ (r : Option Value) (M2 : zM), P r M2 → zJ E x (pc + 3) lv (r.toList ++ st) M2) : zJ E x pc lv stk M := fun H locs ls hl2 hP hS => by
  subst hstk
  obtain ⟨w2, w4, w5, hd⟩ := hy
  have hR' : rm.frames + 1 ≤ x.2.2.1.frames ∧ 8 + (maxL + 11) + rm.locals ≤ x.2.2.1.locals := by rw [hx.2.2.2.2.2.2.2]; exact hR
  exact z_run (va_runSN (As := As) (rest := st) ⟨hx.1, hx.2.1, hx.2.2.1, hx.2.2.2.1, hx.2.2.2.2.1⟩ hM ⟨va_cnB 4 hx.2.2.2.2.1 (zU_cons w5) rfl hrm.1 hrm.2 hx.2.2.2.2.2.1.2 (hx.2.2.2.2.1 _ w4) ⟨hd.1.1, hd.1.2, hd.2⟩ hR', hx.2.2.2.2.1 _ w2, trivial⟩ ⟨zBlind E M _, fun U hU hWm => ⟨rfl, by rw [hU]; exact hP, hx.2.2.2.2.2.1.warm hWm⟩⟩ rfl hn (by show ls.size = nL; rw [hl2.1, hx.2.2.1]) rfl (lv_room hW) d ⟨by show 0 ≤ _; exact Nat.zero_le _, by show 0 ≤ _; exact Nat.zero_le _⟩) hl2 hS kk
end ZC
/-- weaken what a contract says -/
theorem zK_mono {E : zE} {y : MethodName} {cd : Cond} {rm : Room} {av : List Value} {M : zM} {P P2 : Option Value → zM → Prop} (h : zK E y cd rm av M P) (hp : ∀ r M2, P r M2 → P2 r M2) : zK E y cd rm av M P2 := by
  intro p e ha hc hk s m args below hf happ hpre hn
  obtain ⟨k, o, h1, h2, h3, ⟨⟨r, M2, q1, q2, q3⟩, q4⟩, h5⟩ := h p e ha hc hk s m args below hf happ hpre hn
  exact ⟨k, o, h1, h2, h3, ⟨⟨r, M2, q1, hp r M2 q2, q3⟩, q4⟩, h5⟩
/-- a body walked in the judgement gives the contract -/
theorem zK_of {E : zE} (hI : zI E) {y : MethodName} {cc : ByteArray} {nL : Nat} {ret : Option FieldType} {rm : Room} {av : List Value} {M : zM} {P : Option Value → zM → Prop} (hy : plainName y.cls = true) (hlen : (lg_sl av).length ≤ nL)
    (body : ∀ x : zX, zOk E x cc y.cls nL rm → (∀ (pc : Nat) (lv : List (Nat × Value)) (v : Int32) (M2 : zM), ret = some .int → P (some (.int v)) M2 → decode cc pc = .ok (.ireturn, 1) → zJ E x pc lv [.int v] M2) → (∀ (pc : Nat) (lv : List (Nat × Value)) (v : Int32) (M2 : zM), ret = some .boolean → (v = 0 ∨ v = 1) → P (some (.int v)) M2 → decode cc pc = .ok (.ireturn, 1) → zJ E x pc lv [.int v] M2) → (∀ (pc : Nat) (lv : List (Nat × Value)) (v : Int64) (M2 : zM), ret = some .long → P (some (.long v)) M2 → decode cc pc = .ok (.lreturn, 1) → zJ E x pc lv [.long v] M2) → (∀ (pc : Nat) (lv : List (Nat × Value)) (M2 : zM), ret = none → P none M2 → decode cc pc = .ok (.return_, 1) → zJ E x pc lv [] M2) → zJ E x 0 (lv_args 0 av) [] M) : zK E y (.code y cc nL ret) rm av M P := by
  refine Met.ofW (cc := cc) (maxL := nL) (ret := ret) hy rfl ?_
  intro p e s m args below meth c s₁ B hml hv
  obtain ⟨rfl, hP, hG⟩ := hv
  have hts := atoms_spec (ws := Cond.code y cc nL ret :: zU) B.pre
  have hlocks := B.notSynchronized
  have hr := B.returns
  have hl := lv_entry av (n := nL) hlen
  rw [lg_entry_eq]
  have key := body (p, e, rm, s, m, av.toArray, below, meth, c, MQ below (zQ E P) av.toArray s 0 0 (zA E)) ⟨B.exec, B.bytes, hml, findClass_of_methodNamed B.named, fun w hw => hts w (List.mem_cons_of_mem _ hw), hG, hI, rfl⟩
    (fun pc lv v M2 h1 h2 d H locs ls _ hP hS => W.iret (Qc := zQ E P) (free := zA E) (p := p) (l := E.1) (e := e) (R := rm) (s := s) (m := m) (args := av.toArray) (below := below) (meth := meth) (c := c) (cells := 0) (slots := 0) B.exec B.bytes (hr.trans h1) (fun t ht hW => ⟨⟨_, M2, rfl, h2, by rw [ht]; exact hP⟩, hS.F ht⟩) hS.2.2 d)
    (fun pc lv v M2 h1 hv h2 d H locs ls _ hP hS => W.zret (Qc := zQ E P) (free := zA E) (p := p) (l := E.1) (e := e) (R := rm) (s := s) (m := m) (args := av.toArray) (below := below) (meth := meth) (c := c) (cells := 0) (slots := 0) B.exec B.bytes (hr.trans h1) (by rcases hv with e | e <;> rw [e] <;> rfl) (fun t ht hW => ⟨⟨_, M2, rfl, h2, by rw [ht]; exact hP⟩, hS.F ht⟩) hS.2.2 d)
    (fun pc lv v M2 h1 h2 d H locs ls _ hP hS => W.lret (Qc := zQ E P) (free := zA E) (p := p) (l := E.1) (e := e) (R := rm) (s := s) (m := m) (args := av.toArray) (below := below) (meth := meth) (c := c) (cells := 0) (slots := 0) B.exec B.bytes (hr.trans h1) (fun t ht hW => ⟨⟨_, M2, rfl, h2, by rw [ht]; exact hP⟩, hS.F ht⟩) hS.2.2 d)
    (fun pc lv M2 h1 h2 d H locs ls _ hP hS => W.vret (Qc := zQ E P) (free := zA E) (p := p) (l := E.1) (e := e) (R := rm) (s := s) (m := m) (args := av.toArray) (below := below) (meth := meth) (c := c) (cells := 0) (slots := 0) B.exec B.bytes (hr.trans h1) (fun t ht hW => ⟨⟨_, M2, rfl, h2, by rw [ht]; exact hP⟩, hS.F ht⟩) hS.2.2 d)
  exact key s.heap [] _ (by show lv_has _ c.maxLocals _; rw [hml]; exact hl) hP va_S.rf
