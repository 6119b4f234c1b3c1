/-! worlds that grow: cells from s0 on, by their order -/
def zHp (E : zE) (s0 n : Nat) (f : Nat → va_E) (H : Heap) : Prop := s0 + n ≤ H.size ∧ ∀ i, i < n → va_at E.2.1 vwCl (s0 + i, f i) H
def zwl (s0 n : Nat) (f : Nat → va_E) : va_W := (List.range n).map (fun i => (s0 + i, f i))
theorem zwl_len (s0 n : Nat) (f : Nat → va_E) : (zwl s0 n f).length = n := by simp [zwl]
theorem zwl_get {s0 n i : Nat} {f : Nat → va_E} (h : i < n) : (zwl s0 n f)[i]? = some (s0 + i, f i) := by simp [zwl, List.getElem?_map, List.getElem?_range, h]
theorem zwl_lt {s0 n k : Nat} {f : Nat → va_E} {q : Nat × va_E} (h : (zwl s0 n f)[k]? = some q) : k < n := by
  have := (List.getElem?_eq_some_iff.mp h).1
  rwa [zwl_len] at this
theorem zwl_P {E : zE} {s0 n : Nat} {f : Nat → va_E} {H : Heap} (h : zHp E s0 n f H) : va_P E.2.1 vwCl (zwl s0 n f) H := fun k q hk => by
  have hl := zwl_lt hk
  rw [zwl_get hl] at hk
  cases hk
  exact h.2 k hl
theorem zwl_D (s0 n : Nat) (f : Nat → va_E) : va_D (fun q => s0 ≤ q) (zwl s0 n f) := ⟨fun i j p q hi hj e => by
  have h1 := zwl_lt hi
  have h2 := zwl_lt hj
  rw [zwl_get h1] at hi
  rw [zwl_get h2] at hj
  cases hi
  cases hj
  have e2 : s0 + i = s0 + j := e
  omega, fun k q hk => by
  have h1 := zwl_lt hk
  rw [zwl_get h1] at hk
  cases hk
  exact Nat.le_add_right _ _⟩
theorem zwl_set {s0 n i : Nat} {f : Nat → va_E} {e : va_E} (h : i < n) : (zwl s0 n f).set i (s0 + i, e) = zwl s0 n (va_up f i e) := by
  apply List.ext_getElem?
  intro j
  by_cases hj : j < n
  · rw [zwl_get hj, List.getElem?_set]
    by_cases q : i = j
    · subst q
      simp [zwl_len, h, va_up]
    · have q2 : ¬ j = i := fun z => q (Eq.symm z)
      rw [if_neg q, zwl_get hj]
      simp [va_up, q2]
  · rw [List.getElem?_eq_none (by rw [List.length_set, zwl_len]; omega), List.getElem?_eq_none (by rw [zwl_len]; omega)]
theorem zHp_of {E : zE} {s0 n : Nat} {f : Nat → va_E} {H : Heap} (h0 : 0 < n) (h : va_P E.2.1 vwCl (zwl s0 n f) H) : zHp E s0 n f H := ⟨by
  have h1 := (h (n - 1) _ (zwl_get (by omega))).lt
  have h2 : s0 + (n - 1) < H.size := h1
  omega, fun i hi => h i _ (zwl_get hi)⟩
theorem zHp_cg {E : zE} {s0 n : Nat} {f g : Nat → va_E} {H : Heap} (h : zHp E s0 n f H) (e : ∀ i, i < n → f i = g i) : zHp E s0 n g H := ⟨h.1, fun i hi => by
  rw [← e i hi]
  exact h.2 i hi⟩
def zAA (U : State) : Prop := (Cond.arrayOver (.array .long)).before #[] U = true
abbrev zN59 : Cond := .methodLinkNest RX5 9 yX4_init RX5
abbrev zN75 : Cond := .methodLinkNest RX5 18 yX3_init RX5
abbrev zN111 : Cond := .methodLinkNest RX0 24 yX3_init RX5
abbrev zN125 : Cond := .methodLinkNest RX5 43 yX1_init RX5
abbrev zN158 : Cond := .methodLinkNest RX5 50 yX2_init RX5
def zG2 (E : zE) (U : State) : Prop := zG E U ∧ va_AO RX3 U ∧ zAA U ∧ va_Nw zN59 U ∧ va_Nw zN75 U ∧ va_Nw zN111 U ∧ va_Nw zN125 U ∧ va_Nw zN158 U
theorem zG2.warm {E : zE} {s U : State} (h : zG2 E s) (hW : s.WarmedH U.vm) : zG2 E U := ⟨h.1.warm hW, h.2.1.moved hW.alike, over_moved hW.alike h.2.2.1, va_Nw.warmM hW h.2.2.2.1, va_Nw.warmM hW h.2.2.2.2.1, va_Nw.warmM hW h.2.2.2.2.2.1, va_Nw.warmM hW h.2.2.2.2.2.2.1, va_Nw.warmM hW h.2.2.2.2.2.2.2⟩
theorem zG2.call {E : zE} {U : State} (h : zG2 E U) (g : JFrame) (mk : MethodId) (a : Array Value) : zG2 E (U.calling g mk a) := ⟨⟨va_K.moved (u := U) (U := U.calling g mk a) (Vm.Alike.refl U.vm) h.1.1, va_Nw.same (u := U) (U := U.calling g mk a) rfl rfl h.1.2⟩, h.2.1.moved (u := U) (U := U.calling g mk a) (Vm.Alike.refl U.vm), over_moved (u := U) (E := U.calling g mk a) (Vm.Alike.refl U.vm) h.2.2.1, va_Nw.same (u := U) (U := U.calling g mk a) rfl rfl h.2.2.2.1, va_Nw.same (u := U) (U := U.calling g mk a) rfl rfl h.2.2.2.2.1, va_Nw.same (u := U) (U := U.calling g mk a) rfl rfl h.2.2.2.2.2.1, va_Nw.same (u := U) (U := U.calling g mk a) rfl rfl h.2.2.2.2.2.2.1, va_Nw.same (u := U) (U := U.calling g mk a) rfl rfl h.2.2.2.2.2.2.2⟩
/-- at pc, with so many cells made: the machine comes to its end -/
def zC (E : zE) (s0 : Nat) (x : zX) (pc : Nat) (lv : List (Nat × Value)) (st : List Value) (n : Nat) (f : Nat → va_E) (cells slots : Nat) : Prop :=
  ∀ (H : Heap) (locs : List Loc) (ls : Array Slot), lv_has ls x.2.2.2.2.2.2.2.2.1.maxLocals lv → zHp E s0 n f H → va_S (fun q => s0 ≤ q) x.2.2.2.1.heap H locs →
    W x.1 E.1 x.2.1 x.2.2.1 x.2.2.2.1 x.2.2.2.2.1 x.2.2.2.2.2.1 x.2.2.2.2.2.2.1 x.2.2.2.2.2.2.2.1 x.2.2.2.2.2.2.2.2.1 H locs cells slots x.2.2.2.2.2.2.2.2.2 (F0 x.2.2.2.2.1 pc ls st)
def zOc (E : zE) (s0 n0 : Nat) (x : zX) (cc : ByteArray) (own : String) (nL : Nat) (R : Room) : Prop :=
  x.1.tables.exec = Jvm.exec ∧ x.2.2.2.2.2.2.2.2.1.code = cc ∧ x.2.2.2.2.2.2.2.2.1.maxLocals = nL ∧ x.2.2.2.1.vm.findClass own = some x.2.2.2.2.1.cls ∧ (∀ w ∈ zU, w.before x.2.2.2.2.2.1 x.2.2.2.1 = true) ∧ zG2 E x.2.2.2.1 ∧ x.2.2.1 = R ∧ x.2.2.2.1.heap.size = s0 + n0
theorem zW_sz {p : Program} {l : Launch} {e : Env} {R : Room} {s : State} {m : MethodId} {args : Array Value} {below : List Frame} {meth : Method} {c : Code} {H : Heap} {locs : List Loc} {cells slots : Nat} {Q : State → Prop} {g : JFrame} (h : H.size ≤ s.heap.size + cells → W p l e R s m args below meth c H locs cells slots Q g) : W p l e R s m args below meth c H locs cells slots Q g := fun T hT X => h (by rw [← hT]; exact X.heapSize) T hT X
section ZCR
variable {E : zE} {s0 n0 : Nat} {x : zX} {cc : ByteArray} {own : String} {nL : Nat} {R : Room} {pc : Nat} {lv : List (Nat × Value)} {st : List Value} {n : Nat} {f : Nat → va_E} {cells slots : Nat}
theorem zc_iconst (hx : zOc E s0 n0 x cc own nL R) {z : Int} {v : Int32} (d : decode cc pc = .ok (.iconst z, 1)) (hv : Int32.ofInt z = v) (k : zC E s0 x (pc + 1) lv (.int v :: st) n f cells slots) : zC E s0 x pc lv st n f cells slots := fun H locs ls hl hP hS => lv_iconst hx.1 hx.2.1 d hv (k H locs ls hl hP hS)
theorem zc_bipush (hx : zOc E s0 n0 x cc own nL R) {z : Int} {v : Int32} (d : decode cc pc = .ok (.bipush z, 2)) (hv : (Int8.ofInt z).toInt32 = v) (k : zC E s0 x (pc + 2) lv (.int v :: st) n f cells slots) : zC E s0 x pc lv st n f cells slots := fun H locs ls hl hP hS => lv_bipush hx.1 hx.2.1 d hv (k H locs ls hl hP hS)
theorem zc_sipush (hx : zOc E s0 n0 x cc own nL R) {z : Int} {v : Int32} (d : decode cc pc = .ok (.sipush z, 3)) (hv : (Int16.ofInt z).toInt32 = v) (k : zC E s0 x (pc + 3) lv (.int v :: st) n f cells slots) : zC E s0 x pc lv st n f cells slots := fun H locs ls hl hP hS => lv_sipush hx.1 hx.2.1 d hv (k H locs ls hl hP hS)
theorem zc_lconst (hx : zOc E s0 n0 x cc own nL R) {z : Fin 2} {v : Int64} (d : decode cc pc = .ok (.lconst z, 1)) (hv : Int64.ofNat (z : Nat) = v) (k : zC E s0 x (pc + 1) lv (.long v :: st) n f cells slots) : zC E s0 x pc lv st n f cells slots := fun H locs ls hl hP hS => lv_lconst hx.1 hx.2.1 d hv (k H locs ls hl hP hS)
theorem zc_aload_n (hx : zOc E s0 n0 x cc own nL R) (q : Nat) {k : Fin 4} {i : Nat} {v : Nat} (d : decode cc pc = .ok (.aload_n k, 1)) (hi : (k : Nat) = i) (hq : lv[q]? = some (i, .ref v)) (kk : zC E s0 x (pc + 1) lv (.ref v :: st) n f cells slots) : zC E s0 x pc lv st n f cells slots := fun H locs ls hl hP hS => lv_aload_n hx.1 hx.2.1 d hi (lv_at hl q hq) (kk H locs ls hl hP hS)
theorem zc_iload_n (hx : zOc E s0 n0 x cc own nL R) (q : Nat) {k : Fin 4} {i : Nat} {v : Int32} (d : decode cc pc = .ok (.iload_n k, 1)) (hi : (k : Nat) = i) (hq : lv[q]? = some (i, .int v)) (kk : zC E s0 x (pc + 1) lv (.int v :: st) n f cells slots) : zC E s0 x pc lv st n f cells slots := fun H locs ls hl hP hS => lv_iload_n hx.1 hx.2.1 d hi (lv_at hl q hq) (kk H locs ls hl hP hS)
theorem zc_istore_n (hx : zOc E s0 n0 x cc own nL R) {k : Fin 4} {i : Nat} {v : Int32} {lv2 : List (Nat × Value)} (d : decode cc pc = .ok (.istore_n k, 1)) (hi : (k : Nat) = i) (hn : i < nL) (hl2 : (i, Value.int v) :: lv.filter (fun q => !(q.1 == i) && !(q.1 + 1 == i && q.2.category == 2)) = lv2) (kk : zC E s0 x (pc + 1) lv2 st n f cells slots) : zC E s0 x pc lv (.int v :: st) n f cells slots := fun H locs ls hl hP hS => lv_istore_n hx.1 hx.2.1 d hi hl (by rw [hx.2.2.1]; exact hn) hl2 (fun ls hl => kk H locs ls hl hP hS)
theorem zc_astore_n (hx : zOc E s0 n0 x cc own nL R) {k : Fin 4} {i : Nat} {v : Nat} {lv2 : List (Nat × Value)} (d : decode cc pc = .ok (.astore_n k, 1)) (hi : (k : Nat) = i) (hn : i < nL) (hl2 : (i, Value.ref v) :: lv.filter (fun q => !(q.1 == i) && !(q.1 + 1 == i && q.2.category == 2)) = lv2) (kk : zC E s0 x (pc + 1) lv2 st n f cells slots) : zC E s0 x pc lv (.ref v :: st) n f cells slots := fun H locs ls hl hP hS => lv_astore_n hx.1 hx.2.1 d hi hl (by rw [hx.2.2.1]; exact hn) hl2 (fun ls hl => kk H locs ls hl hP hS)
theorem zc_iinc (hx : zOc E s0 n0 x cc own nL R) (q : Nat) {i : Nat} {z : Int} {v w : Int32} {lv2 : List (Nat × Value)} (d : decode cc pc = .ok (.iinc i z, 3)) (hq : lv[q]? = some (i, .int v)) (hv : v + Int32.ofInt z = w) (hn : i < nL) (hl2 : (i, Value.int w) :: lv.filter (fun q => !(q.1 == i) && !(q.1 + 1 == i && q.2.category == 2)) = lv2) (kk : zC E s0 x (pc + 3) lv2 st n f cells slots) : zC E s0 x pc lv st n f cells slots := fun H locs ls hl hP hS => lv_iinc hx.1 hx.2.1 d hl hq hv (by rw [hx.2.2.1]; exact hn) hl2 (fun ls hl => kk H locs ls hl hP hS)
theorem zc_icmp_ge (hx : zOc E s0 n0 x cc own nL R) {x0 y0 : Int32} {off : Int} {tgt : Nat} (d : decode cc pc = .ok (.if_icmp .ge off, 3)) (ht : (pc : Int) + off = (tgt : Int)) (kt : y0 ≤ x0 → zC E s0 x tgt lv st n f cells slots) (kf : ¬ y0 ≤ x0 → zC E s0 x (pc + 3) lv st n f cells slots) : zC E s0 x pc lv (.int y0 :: .int x0 :: st) n f cells slots := fun H locs ls hl hP hS => lv_icmp_ge hx.1 hx.2.1 d ht (fun q => kt q H locs ls hl hP hS) (fun q => kf q H locs ls hl hP hS)
theorem zc_goto (hx : zOc E s0 n0 x cc own nL R) {off : Int} {tgt : Nat} (d : decode cc pc = .ok (.goto off, 3)) (ht : (pc : Int) + off = (tgt : Int)) (k : zC E s0 x tgt lv st n f cells slots) : zC E s0 x pc lv st n f cells slots := fun H locs ls hl hP hS => lv_goto hx.1 hx.2.1 d ht (k H locs ls hl hP hS)
theorem zc_dup (hx : zOc E s0 n0 x cc own nL R) {va : Value} (d : decode cc pc = .ok (.dup, 1)) (h1 : va.category = 1) (k : zC E s0 x (pc + 1) lv (va :: va :: st) n f cells slots) : zC E s0 x pc lv (va :: st) n f cells slots := fun H locs ls hl hP hS => lv_dup hx.1 hx.2.1 d h1 (k H locs ls hl hP hS)
theorem zc_to {lv2 : List (Nat × Value)} {n2 : Nat} {g : Nat → va_E} {c2 l2 : Nat} (k : zC E s0 x pc lv2 st n2 g c2 l2) (ks : List Nat) (h : lv_pick lv ks = lv2) (hn : n = n2) (hf : ∀ i, i < n → f i = g i) (hc : cells = c2) (hs : slots = l2) : zC E s0 x pc lv st n f cells slots := fun H locs ls hl hP hS => by
  subst hn
  subst hc
  subst hs
  exact k H locs ls (lv_sub hl ks h) (zHp_cg hP hf) hS
theorem zc_obj (hx : zOc E s0 n0 x cc own nL R) {a index : Nat} (hl : Cond.methodLink own index objectInit ∈ zU) (hfr : 1 ≤ R.frames) (hlo : (st.map fun v => v.category).sum + 12 ≤ R.locals) (d : decode cc pc = .ok (.invokespecial index, 3)) (kk : zC E s0 x (pc + 3) lv st n f cells slots) : zC E s0 x pc lv (.ref a :: st) n f cells slots := fun H locs ls hl2 hP hS => W.objInit hx.1 hx.2.1 hx.2.2.2.1 (hx.2.2.2.2.1 _ hl) (hx.2.2.2.2.1 _ zw_55) (hx.2.2.2.2.1 _ zw_56) rfl hl2.1 rfl d (by rw [hx.2.2.2.2.2.2.1]; exact hfr) (by rw [hx.2.2.2.2.2.2.1]; show 2 * 0 + _ + 12 ≤ _; omega) (kk H locs ls hl2 hP hS)
theorem zS_al {s0 n : Nat} {H0 H H1 : Heap} {locs : List Loc} (h : va_S (fun q => s0 ≤ q) H0 H locs) (hs : H.size = s0 + n) (z : H.size ≤ H1.size) (o : ∀ q : Nat, q < s0 + n → H1[q]? = H[q]?) : va_S (fun q => s0 ≤ q) H0 H1 locs := ⟨Nat.le_trans h.1 z, fun q h1 h2 => (o q (by have h3 : ¬ s0 ≤ q := h2; omega)).trans (h.2.1 q h1 h2), h.2.2⟩
theorem zHp_al {E : zE} {s0 n : Nat} {f : Nat → va_E} {e : va_E} {H H1 : Heap} (h : zHp E s0 n f H) (z : H1.size = s0 + n + 1) (o : ∀ q : Nat, q < s0 + n → H1[q]? = H[q]?) (he : va_at E.2.1 vwCl (s0 + n, e) H1) : zHp E s0 (n + 1) (va_up f n e) H1 := ⟨by omega, fun i hi => by
  by_cases q : i = n
  · rw [q, zup_e]
    exact he
  · rw [zup_n _ _ q]
    exact (h.2 i (by omega)).kept (o _ (by show s0 + i < s0 + n; omega))⟩
theorem zc_new (hx : zOc E s0 n0 x cc own nL R) (hz : n0 + cells = n) {C : String} {T : u_T} {N ci index : Nat} {fs : List Value} (ty : Nat → FieldType) (hin : ∀ w ∈ u_ws C T N, w ∈ zU) (hty : ∀ k, k < N → parseFieldDescriptor (T k).2.2.1 = some (ty k)) (hcl : Cond.classLink own index C ∈ zU) (hinst : Cond.instantiable C N ∈ zU) (hini : Cond.initialized C ∈ zU) (hc : vwCl[ci]? = some (C, T, N)) (hfs : ∀ j, j < N → defaultValue (ty j) = vp_V fs j) (hcells : cells + 1 ≤ R.cells) (hslots : slots + N ≤ R.slots) (d : decode cc pc = .ok (.new index, 3)) (kk : zC E s0 x (pc + 3) lv (.ref (s0 + n) :: st) (n + 1) (va_up f n (.inr (ci, fs))) (cells + 1) (slots + N)) : zC E s0 x pc lv st n f cells slots := fun H locs ls hl2 hP hS => zW_sz (fun hsz => by
  rw [hx.2.2.2.2.2.2.2] at hsz
  have hH : H.size = s0 + n := by have := hP.1; omega
  have hKn := hx.2.2.2.2.2.1.1.1.1 ci _ hc
  refine W.newcK hx.1 hx.2.1 hx.2.2.2.1 (hx.2.2.2.2.1 _ hcl) (hx.2.2.2.2.1 _ hinst) (hx.2.2.2.2.1 _ hini) rfl d (by rw [hx.2.2.2.2.2.2.1]; exact hcells) (by rw [hx.2.2.2.2.2.2.1]; exact hslots) hKn.2.1 hH fun H1 kC hkC e1 z1 o1 => ?_
  exact kk H1 locs ls hl2 (zHp_al hP z1 o1 ⟨_, hc, (u_born ty hx.2.2.2.2.1 hin hKn hkC e1 hty).to hfs⟩) (zS_al hS hH (by omega) o1))
theorem zc_newa (hx : zOc E s0 n0 x cc own nL R) (hz : n0 + cells = n) {atype : ArrayType} {ty : FieldType} {t0 N : Nat} {v : Int32} {a0 : vp_A} (hty : newarray.typeOf atype = ty) (ht : (ztys E)[t0]? = some (E.2.2.1 t0, ty)) (hra : ∀ U cA, va_RA U cA ty → U.vm.findClass ("[" ++ ty.toString) = some cA) (harr : Cond.arrayClass ty ∈ zU) (ha : ∀ cA : ClassId, vp_cell cA a0 = arrV cA N (fun _ => defaultValue ty)) (hn : ¬ v < 0) (hN : v.toNatClampNeg = N) (hb : N * componentBytes ty ≤ 536870912) (hcells : cells + 1 ≤ R.cells) (hslots : slots + N ≤ R.slots) (d : decode cc pc = .ok (.newarray atype, 2)) (kk : zC E s0 x (pc + 2) lv (.ref (s0 + n) :: st) (n + 1) (va_up f n (.inl (E.2.2.1 t0, a0))) (cells + 1) (slots + N)) : zC E s0 x pc lv (.int v :: st) n f cells slots := fun H locs ls hl2 hP hS => zW_sz (fun hsz => by
  rw [hx.2.2.2.2.2.2.2] at hsz
  have hH : H.size = s0 + n := by have := hP.1; omega
  subst hty
  refine va_newaK hx.1 hx.2.1 (hx.2.2.2.2.1 _ harr) rfl d rfl hn hN hb (by rw [hx.2.2.2.2.2.2.1]; exact hcells) (by rw [hx.2.2.2.2.2.2.1]; exact hslots) hH fun H1 cA e1 z1 o1 hAr hNm => ?_
  have e2 := hra _ _ (hx.2.2.2.2.2.1.1.1.2 t0 _ ht).2
  have e3 : cA = E.2.2.1 t0 := Option.some.inj (hNm.symm.trans e2)
  subst e3
  exact kk H1 locs ls hl2 (zHp_al hP z1 o1 (by show H1[s0 + n]? = some (vp_cell _ _); rw [ha]; exact e1)) (zS_al hS hH (by omega) o1))
theorem zc_newq (hx : zOc E s0 n0 x cc own nL R) (hz : n0 + cells = n) {index N : Nat} {v : Int32} (hcl : Cond.classLink own index RX3 ∈ zU) (hn : ¬ v < 0) (hN : v.toNatClampNeg = N) (hb : N * 4 ≤ 536870912) (hcells : cells + 1 ≤ R.cells) (hslots : slots + N ≤ R.slots) (d : decode cc pc = .ok (.anewarray index, 3)) (kk : zC E s0 x (pc + 3) lv (.ref (s0 + n) :: st) (n + 1) (va_up f n (.inl (E.2.2.1 3, N, .inr (.inr (.inr (.inr (fun _ => none))))))) (cells + 1) (slots + N)) : zC E s0 x pc lv (.int v :: st) n f cells slots := fun H locs ls hl2 hP hS => zW_sz (fun hsz => by
  rw [hx.2.2.2.2.2.2.2] at hsz
  have hH : H.size = s0 + n := by have := hP.1; omega
  subst hN
  refine W.anew hx.1 hx.2.1 hx.2.2.2.1 (hx.2.2.2.2.1 _ hcl) (va_AO.use hx.2.2.2.2.2.1.2.1) rfl d rfl hn hb (by rw [hx.2.2.2.2.2.2.1]; exact hcells) (by rw [hx.2.2.2.2.2.2.1]; exact hslots) fun cA kA comp f1 f2 f3 f4 => ?_
  obtain ⟨kA2, comp2, g1, g2, g3, g4⟩ := (hx.2.2.2.2.2.1.1.1.2 3 _ (rfl : (ztys E)[3]? = some (E.2.2.1 3, .object RX3))).2
  have e3 : cA = E.2.2.1 3 := Option.some.inj (f1.symm.trans g4)
  subst e3
  generalize hH1 : H.push ({ cls := E.2.2.1 3, slots := Array.replicate v.toNatClampNeg .null, vm := .none } : Cell) = H1
  have z1 : H1.size = s0 + n + 1 := by rw [← hH1, Array.size_push, hH]
  have o1 : ∀ q : Nat, q < s0 + n → H1[q]? = H[q]? := fun q hq => by rw [← hH1, Array.getElem?_push, if_neg (by omega)]
  have e1 : H1[s0 + n]? = some (arrV (E.2.2.1 3) v.toNatClampNeg (fun _ => .null)) := by rw [← hH1, ← hH, Array.getElem?_push_size, ← arrV_new]
  have kk2 := kk H1 locs ls hl2 (zHp_al hP z1 o1 (by show H1[s0 + n]? = some (vp_cell _ _); rw [vp_cell_q]; exact e1)) (zS_al hS hH (by omega) o1)
  rw [← hH] at kk2
  exact kk2)
theorem zc_multi (hx : zOc E s0 n0 x cc own nL R) (hz : n0 + cells = n) {index N K : Nat} {v w : Int32} {g : Nat → va_E} (hcl : Cond.classLink own index "[[J" ∈ zU) (hv : ¬ v < 0) (hw : ¬ w < 0) (hN : v.toNatClampNeg = N) (hK : w.toNatClampNeg = K) (hN2 : N ≤ 1000) (hK2 : K ≤ 1000) (hcells : cells + (1 + N) ≤ R.cells) (hslots : slots + (N + N * K) ≤ R.slots) (d : decode cc pc = .ok (.multianewarray index 2, 4)) (g1 : ∀ i, i < n → g i = f i) (g2 : g n = .inl (E.2.2.1 4, N, .inr (.inr (.inr (.inr (fun j => if j < N then some (s0 + (n + 1 + j)) else none)))))) (g3 : ∀ j, j < N → g (n + 1 + j) = .inl (E.2.2.1 1, K, .inr (.inl (fun _ => 0)))) (kk : zC E s0 x (pc + 4) lv (.ref (s0 + n) :: st) (n + 1 + N) g (cells + 1 + N) (slots + N + N * K)) : zC E s0 x pc lv (.int w :: .int v :: st) n f cells slots := fun H locs ls hl2 hP hS => zW_sz (fun hsz => by
  rw [hx.2.2.2.2.2.2.2] at hsz
  have hH : H.size = s0 + n := by have := hP.1; omega
  refine zW_multi hx.1 hx.2.1 hx.2.2.2.1 (hx.2.2.2.2.1 _ hcl) hx.2.2.2.2.2.1.2.2.1 (hx.2.2.2.2.1 _ zw_155) rfl d rfl hv hw hN hK hN2 hK2 (by rw [hx.2.2.2.2.2.2.1]; exact hcells) (by rw [hx.2.2.2.2.2.2.1]; exact hslots) fun H2 locs2 cA comp c1 c2 z1 e1 o1 r1 l1 => ?_
  have t4 : x.2.2.2.1.vm.findClass "[[J" = some (E.2.2.1 4) := (hx.2.2.2.2.2.1.1.1.2 4 _ (rfl : (ztys E)[4]? = some (E.2.2.1 4, .array .long))).2
  have t1 : x.2.2.2.1.vm.findClass "[J" = some (E.2.2.1 1) := (hx.2.2.2.2.2.1.1.1.2 1 _ (rfl : (ztys E)[1]? = some (E.2.2.1 1, .long))).2
  have e4 : cA = E.2.2.1 4 := Option.some.inj (c1.symm.trans t4)
  have e5 : comp = E.2.2.1 1 := Option.some.inj (c2.symm.trans t1)
  subst e4
  subst e5
  rw [hH] at e1 z1 o1 r1 ⊢
  refine kk H2 locs2 ls hl2 ⟨by omega, fun i hi => ?_⟩ ⟨Nat.le_trans hS.1 (by omega), fun q h1 h2 => (o1 q (by have h3 : ¬ s0 ≤ q := h2; omega)).trans (hS.2.1 q h1 h2), fun q hq => ?_⟩
  · by_cases q : i < n
    · rw [g1 i q]
      exact (hP.2 i q).kept (o1 _ (by show s0 + i < s0 + n; omega))
    · by_cases q2 : i = n
      · rw [q2, g2]
        show H2[s0 + n]? = some (vp_cell _ _)
        rw [e1, vp_cell_q, zro]
        congr 2
        funext j
        by_cases q3 : j < N
        · rw [if_pos q3, if_pos q3]
          show Value.ref (s0 + n + 1 + j) = Value.ref (s0 + (n + 1 + j))
          rw [Nat.add_assoc, Nat.add_assoc, Nat.add_assoc]
        · rw [if_neg q3, if_neg q3]
          rfl
      · obtain ⟨j, rfl⟩ : ∃ j, i = n + 1 + j := ⟨i - (n + 1), by omega⟩
        rw [g3 j (by omega)]
        show H2[s0 + (n + 1 + j)]? = some (vp_cell _ _)
        rw [show s0 + (n + 1 + j) = s0 + n + 1 + j by omega, r1 j (by omega)]
        rfl
  · rcases l1 q hq with h | h
    · exact hS.2.2 q h
    · show s0 ≤ q.base
      rw [h, hH]
      exact Nat.le_add_right _ _)
theorem zc_get (hx : zOc E s0 n0 x cc own nL R) {b ci k N index : Nat} {C : String} {T : u_T} {fs : List Value} {v : Value} (hb : b < n) (hf : f b = .inr (ci, fs)) (hci : vwCl[ci]? = some (C, T, N)) (hin : ∀ w ∈ u_ws C T N, w ∈ zU) (hk : k < N) (hl : Cond.fieldLink own index (T k).1 (T k).2.1 (T k).2.2.1 ∈ zU) (hv : fs[k]? = some v) (d : decode cc pc = .ok (.getfield index, 3)) (kk : zC E s0 x (pc + 3) lv (v :: st) n f cells slots) : zC E s0 x pc lv (.ref (s0 + b) :: st) n f cells slots := fun H locs ls hl2 hP hS =>
  va_get (C := C) (T := T) (N := N) (Ts := zU) (ref := (T k).1) hx.1 hx.2.1 hx.2.2.2.2.1 hin hx.2.2.2.1 hx.2.2.2.2.2.1.1.1 (zwl_P hP) b ((zwl_get hb).trans (by rw [hf])) hci k hk (hx.2.2.2.2.1 _ hl) (fun _ h => h) hv d (kk H locs ls hl2 hP hS)
theorem zc_put (hx : zOc E s0 n0 x cc own nL R) {b ci k N index : Nat} {C : String} {T : u_T} {ty0 : Nat → FieldType} {ty : FieldType} {fs fs2 : List Value} {v : Value} (hb : b < n) (hf : f b = .inr (ci, fs)) (hci : vwCl[ci]? = some (C, T, N)) (hin : ∀ w ∈ u_ws C T N, w ∈ zU) (hty : ∀ k, k < N → parseFieldDescriptor (T k).2.2.1 = some (ty0 k)) (hnm : ∀ a, a < N → ∀ b, b < N → a ≠ b → (T a).2.1 ≠ (T b).2.1) (hk : k < N) (hl : Cond.fieldLink own index (T k).1 (T k).2.1 (T k).2.2.1 ∈ zU) (hfin : (T k).2.2.2 = false) (hd : parseFieldDescriptor (T k).2.2.1 = some ty) (hn : narrow ty v = v) (hfit : fits ty v = true) (hlen : k < fs.length) (h2 : fs.set k v = fs2) (d : decode cc pc = .ok (.putfield index, 3)) (kk : zC E s0 x (pc + 3) lv st n (va_up f b (.inr (ci, fs2))) cells slots) : zC E s0 x pc lv (v :: .ref (s0 + b) :: st) n f cells slots := fun H locs ls hl2 hP hS =>
  va_put (C := C) (T := T) (N := N) (Ts := zU) (ref := (T k).1) hx.1 hx.2.1 hx.2.2.2.2.1 hin ty0 hty hnm hx.2.2.2.1 hx.2.2.2.2.2.1.1.1 (zwl_P hP) (zwl_D s0 n f) hS b ((zwl_get hb).trans (by rw [hf])) hci k hk (hx.2.2.2.2.1 _ hl) (fun _ h => h) hfin hd hn hfit hlen d (fun H1 locs1 hP1 _ hS1 => kk H1 locs1 ls hl2 (zHp_of (by omega) (by rw [zwl_set hb, h2] at hP1; exact hP1)) hS1)
theorem zc_putF (hx : zOc E s0 n0 x cc own nL R) (hin2 : x.2.2.2.2.2.2.2.1.name = "<init>") {b ci k N index : Nat} {C : String} {T : u_T} {ty0 : Nat → FieldType} {ty : FieldType} {fs fs2 : List Value} {v : Value} (hb : b < n) (hf : f b = .inr (ci, fs)) (hci : vwCl[ci]? = some (C, T, N)) (hin : ∀ w ∈ u_ws C T N, w ∈ zU) (hty : ∀ k, k < N → parseFieldDescriptor (T k).2.2.1 = some (ty0 k)) (hnm : ∀ a, a < N → ∀ b, b < N → a ≠ b → (T a).2.1 ≠ (T b).2.1) (hk : k < N) (hl : Cond.fieldLink own index (T k).1 (T k).2.1 (T k).2.2.1 ∈ zU) (hfin : (T k).2.2.2 = true) (hdecl : (T k).1 = own) (hd : parseFieldDescriptor (T k).2.2.1 = some ty) (hn : narrow ty v = v) (hfit : fits ty v = true) (hlen : k < fs.length) (h2 : fs.set k v = fs2) (d : decode cc pc = .ok (.putfield index, 3)) (kk : zC E s0 x (pc + 3) lv st n (va_up f b (.inr (ci, fs2))) cells slots) : zC E s0 x pc lv (v :: .ref (s0 + b) :: st) n f cells slots := fun H locs ls hl2 hP hS =>
  va_putF (C := C) (T := T) (N := N) (Ts := zU) (ref := (T k).1) hx.1 hx.2.1 hx.2.2.2.2.1 hin ty0 hty hnm hx.2.2.2.1 hx.2.2.2.2.2.1.1.1 (zwl_P hP) (zwl_D s0 n f) hS b ((zwl_get hb).trans (by rw [hf])) hci k hk (hx.2.2.2.2.1 _ hl) (fun _ h => h) hfin hin2 hdecl hd hn hfit hlen d (fun H1 locs1 hP1 _ hS1 => kk H1 locs1 ls hl2 (zHp_of (by omega) (by rw [zwl_set hb, h2] at hP1; exact hP1)) hS1)
theorem zc_aast (hx : zOc E s0 n0 x cc own nL R) {a b N k : Nat} {g : Nat → Option Nat} {vs : List Value} (ha : a < n) (hf : f a = .inl (E.2.2.1 3, N, .inr (.inr (.inr (.inr g))))) (hb : b < n) (hfb : f b = .inr (3, vs)) (hk : k < N) (hN : N < 2 ^ 31) (d : decode cc pc = .ok (.aastore, 1)) (kk : zC E s0 x (pc + 1) lv st n (va_up f a (.inl (E.2.2.1 3, N, .inr (.inr (.inr (.inr (va_up g k (some (s0 + b))))))))) cells slots) : zC E s0 x pc lv (.ref (s0 + b) :: .int (nI k) :: .ref (s0 + a) :: st) n f cells slots := fun H locs ls hl2 hP hS =>
  va_astq (r := (RX3, TX3, 5)) hx.1 hx.2.1 hx.2.2.2.2.2.1.1.1 (zwl_P hP) (zwl_D s0 n f) hS a 3 b 3 ((zwl_get ha).trans (by rw [hf])) rfl ((zwl_get hb).trans (by rw [hfb])) rfl (vp_in_nI hk hN) d (fun H1 locs1 hP1 _ hS1 => kk H1 locs1 ls hl2 (zHp_of (by omega) (by rw [zwl_set ha, nI_clamp (Nat.lt_trans hk hN)] at hP1; exact hP1)) hS1)
abbrev zQc (E : zE) (s0 n2 : Nat) (f2 : Nat → va_E) : Array Value → State → Outcome → State → Prop := fun _ st oc t => (oc = .returned none ∧ zHp E s0 n2 f2 t.heap) ∧ va_F (fun q => s0 ≤ q) st t
/-- a constructor's contract: at the object b, over n cells f: so many cells more, all as f2 says -/
def zKc (E : zE) (s0 : Nat) (y : MethodName) (cd : Cond) (rm : Room) (b n : Nat) (f : Nat → va_E) (mc ms : Nat) (f2 : Nat → va_E) : Prop :=
  Met E.1 y (cd :: zU) rm (va_Pc [.ref (s0 + b)] (fun U => U.heap.size = s0 + n ∧ zHp E s0 n f U.heap ∧ zG2 E U)) (zQc E s0 (n + mc) f2) mc ms (fun q => s0 ≤ q)
theorem zBlindC (E : zE) (s0 n : Nat) (f : Nat → va_E) (av : List Value) : FrameBlind (va_Pc av (fun U => U.heap.size = s0 + n ∧ zHp E s0 n f U.heap ∧ zG2 E U)) := fun a U g mk q => by
  obtain ⟨q0, q1, q2, q3⟩ := q
  exact ⟨q0, q1, q2, q3.call g mk a⟩
theorem zc_run {H : Heap} {locs : List Loc} {ls : Array Slot} {st0 : List Value} {n2 mc ms : Nat} {f2 : Nat → va_E} (hr : va_Run x.1 E.1 x.2.1 x.2.2.1 x.2.2.2.1 x.2.2.2.2.1 x.2.2.2.2.2.1 x.2.2.2.2.2.2.1 x.2.2.2.2.2.2.2.1 x.2.2.2.2.2.2.2.2.1 H locs cells slots mc ms (F0 x.2.2.2.2.1 pc ls st0) st (fun st oc t => (oc = .returned none ∧ zHp E s0 n2 f2 t.heap) ∧ va_F (fun q => s0 ≤ q) st t) (fun q => s0 ≤ q)) (hl : lv_has ls x.2.2.2.2.2.2.2.2.1.maxLocals lv) (hS : va_S (fun q => s0 ≤ q) x.2.2.2.1.heap H locs) (kk : zC E s0 x (pc + 3) lv st n2 f2 (cells + mc) (slots + ms)) : W x.1 E.1 x.2.1 x.2.2.1 x.2.2.2.1 x.2.2.2.2.1 x.2.2.2.2.2.1 x.2.2.2.2.2.2.1 x.2.2.2.2.2.2.2.1 x.2.2.2.2.2.2.2.2.1 H locs cells slots x.2.2.2.2.2.2.2.2.2 (F0 x.2.2.2.2.1 pc ls st0) := by
  intro T hT X
  obtain ⟨v, st₀, t, T', L, h0, X', hL, e1, e2, ⟨⟨hv, hb⟩, hz, hk⟩, stp⟩ := hr T hT X
  cases hv
  rw [h0] at hz hk
  obtain ⟨t2, a1, b1⟩ := kk T'.heap (locs ++ L) ls hl (by rw [e1]; exact hb)
    ⟨Nat.le_trans hS.1 (by rw [e1]; exact hz), fun q h1 h2 => by rw [e1, hk q (Nat.lt_of_lt_of_le h1 hS.1) h2]; exact hS.2.1 q h1 h2, fun q hq => by
      rcases List.mem_append.mp hq with h | h
      · exact hS.2.2 q h
      · exact hL q h⟩ T' rfl X'
  exact ⟨t2, stp t2 a1, b1⟩
def zYI (y : MethodName) (bytes : ByteArray) (maxL : Nat) : Prop := Cond.instanceMethod y ∈ zU ∧ Cond.initialized y.cls ∈ zU ∧ Cond.code y bytes maxL none ∈ zU ∧ y.name = "<init>" ∧ (y.cls ≠ "java/lang/invoke/MethodHandle" ∧ y.cls ≠ "java/lang/invoke/VarHandle") ∧ (parseMethodDescriptor y.desc).map (fun d => d.parameters.length) = some 0
theorem zc_callI (hx : zOc E s0 n0 x cc own nL R) (hz : n0 + cells = n) {y : MethodName} {bytes : ByteArray} {maxL index b mc ms : Nat} {rm : Room} {f2 : Nat → va_E} (hM : zKc E s0 y (.code y bytes maxL none) rm b n f mc ms f2) (w1 : Cond.methodLink own index y ∈ zU) (hy : zYI y bytes maxL) (hrm : rm.cells = mc ∧ rm.slots = ms) (hR : rm.frames + 1 ≤ R.frames ∧ 8 + (maxL + 11) + rm.locals ≤ R.locals) (hf : cells + mc ≤ R.cells ∧ slots + ms ≤ R.slots) (hW : (st.map fun v => v.category).sum ≤ 8) (d : decode cc pc = .ok (.invokespecial index, 3)) (kk : zC E s0 x (pc + 3) lv st (n + mc) f2 (cells + mc) (slots + ms)) : zC E s0 x pc lv (.ref (s0 + b) :: st) n f cells slots := fun H locs ls hl2 hP hS => zW_sz (fun hsz => by
  rw [hx.2.2.2.2.2.2.2] at hsz
  have hH : H.size = s0 + n := by have := hP.1; omega
  obtain ⟨w2, w4, w5, w6, hd⟩ := hy
  have hR' : rm.frames + 1 ≤ x.2.2.1.frames ∧ 8 + (maxL + 11) + rm.locals ≤ x.2.2.1.locals := by rw [hx.2.2.2.2.2.2.1]; exact hR
  exact zc_run (va_runI (bytes := bytes) (maxL := maxL) (As := []) (rest := st) ⟨hx.1, hx.2.1, hx.2.2.1, hx.2.2.2.1, hx.2.2.2.2.1⟩ hM ⟨callB_of 0 hx.2.2.2.2.1 (zU_cons w5) rfl hrm.1 hrm.2 (hx.2.2.2.2.1 _ w4) (hx.2.2.2.2.1 _ w1) ⟨hd.1.1, hd.1.2, hd.2⟩ hR', w6, hx.2.2.2.2.1 _ w2⟩ ⟨zBlindC E s0 n f _, fun U hU hWm => ⟨rfl, by rw [hU]; exact hH, by rw [hU]; exact hP, hx.2.2.2.2.2.1.warm hWm⟩⟩ rfl rfl (by show ls.size = nL; rw [hl2.1, hx.2.2.1]) rfl (lv_room hW) d ⟨by rw [hx.2.2.2.2.2.2.1]; exact hf.1, by rw [hx.2.2.2.2.2.2.1]; exact hf.2⟩) hl2 hS kk)
theorem zc_callIN (hx : zOc E s0 n0 x cc own nL R) (hz : n0 + cells = n) {y : MethodName} {bytes : ByteArray} {maxL index b mc ms : Nat} {rm : Room} {f2 : Nat → va_E} (hM : zKc E s0 y (.code y bytes maxL none) rm b n f mc ms f2) (w1 : va_Nw (.methodLinkNest own index y RX5) x.2.2.2.1) (hy : zYI y bytes maxL) (hrm : rm.cells = mc ∧ rm.slots = ms) (hR : rm.frames + 1 ≤ R.frames ∧ 8 + (maxL + 11) + rm.locals ≤ R.locals) (hf : cells + mc ≤ R.cells ∧ slots + ms ≤ R.slots) (hW : (st.map fun v => v.category).sum ≤ 8) (d : decode cc pc = .ok (.invokespecial index, 3)) (kk : zC E s0 x (pc + 3) lv st (n + mc) f2 (cells + mc) (slots + ms)) : zC E s0 x pc lv (.ref (s0 + b) :: st) n f cells slots := fun H locs ls hl2 hP hS => zW_sz (fun hsz => by
  rw [hx.2.2.2.2.2.2.2] at hsz
  have hH : H.size = s0 + n := by have := hP.1; omega
  obtain ⟨w2, w4, w5, w6, hd⟩ := hy
  have hR' : rm.frames + 1 ≤ x.2.2.1.frames ∧ 8 + (maxL + 11) + rm.locals ≤ x.2.2.1.locals := by rw [hx.2.2.2.2.2.2.1]; exact hR
  exact zc_run (va_runIN (bytes := bytes) (maxL := maxL) (As := []) (rest := st) ⟨hx.1, hx.2.1, hx.2.2.1, hx.2.2.2.1, hx.2.2.2.2.1⟩ hM ⟨va_cnB 0 hx.2.2.2.2.1 (zU_cons w5) rfl hrm.1 hrm.2 w1 (hx.2.2.2.2.1 _ w4) ⟨hd.1.1, hd.1.2, hd.2⟩ hR', w6, hx.2.2.2.2.1 _ w2⟩ ⟨zBlindC E s0 n f _, fun U hU hWm => ⟨rfl, by rw [hU]; exact hH, by rw [hU]; exact hP, hx.2.2.2.2.2.1.warm hWm⟩⟩ rfl rfl (by show ls.size = nL; rw [hl2.1, hx.2.2.1]) rfl (lv_room hW) d ⟨by rw [hx.2.2.2.2.2.2.1]; exact hf.1, by rw [hx.2.2.2.2.2.2.1]; exact hf.2⟩) hl2 hS kk)
end ZCR
theorem zKc_of {E : zE} {s0 n b mc ms : Nat} {f f2 : Nat → va_E} {y : MethodName} {cc : ByteArray} {nL : Nat} {rm : Room} (hy : plainName y.cls = true) (hyn : y.name = "<init>") (hlen : 1 ≤ nL)
    (body : ∀ x : zX, zOc E s0 n x cc y.cls nL rm → x.2.2.2.2.2.2.2.1.name = "<init>" → (∀ (pc : Nat) (lv : List (Nat × Value)) (g : Nat → va_E), (∀ i, i < n + mc → g i = f2 i) → decode cc pc = .ok (.return_, 1) → zC E s0 x pc lv [] (n + mc) g mc ms) → zC E s0 x 0 [(0, .ref (s0 + b))] [] n f 0 0) : zKc E s0 y (.code y cc nL none) rm b n f mc ms f2 := by
  refine Met.ofW (cc := cc) (maxL := nL) (ret := none) hy rfl ?_
  intro p e s m args below meth c s₁ B hml hv
  obtain ⟨rfl, hsz, hP, hG⟩ := hv
  have hts := atoms_spec (ws := Cond.code y cc nL none :: zU) B.pre
  have hlocks := B.notSynchronized
  have hr := B.returns
  have hl := lv_entry [.ref (s0 + b)] (n := nL) hlen
  rw [lg_entry_eq]
  have key := body (p, e, rm, s, m, [Value.ref (s0 + b)].toArray, below, meth, c, MQ below (zQc E s0 (n + mc) f2) [Value.ref (s0 + b)].toArray s mc ms (fun q => s0 ≤ q)) ⟨B.exec, B.bytes, hml, findClass_of_methodNamed B.named, fun w hw => hts w (List.mem_cons_of_mem _ hw), hG, rfl, hsz⟩ ((name_of_methodNamed B.named B.method).1.trans hyn)
    (fun pc lv g hg d H locs ls _ hP hS => W.vret (Qc := zQc E s0 (n + mc) f2) (free := fun q => s0 ≤ q) (p := p) (l := E.1) (e := e) (R := rm) (s := s) (m := m) (args := [Value.ref (s0 + b)].toArray) (below := below) (meth := meth) (c := c) (cells := mc) (slots := ms) B.exec B.bytes hr (fun t ht hW => ⟨⟨rfl, by rw [ht]; exact zHp_cg hP hg⟩, hS.F ht⟩) hS.2.2 d)
  exact key s.heap [] _ (by show lv_has _ c.maxLocals _; rw [hml]; exact hl) hP va_S.rf
