/-! a table of rows of longs, made at once -/
def zro (c : ClassId) (N h0 i : Nat) : Cell := arrV c N (fun j => if j < i then .ref (h0 + 1 + j) else .null)
def zri (c : ClassId) (K : Nat) : Cell := arrV c K (fun _ => .long 0)
def zms (T : State) (c comp : ClassId) (N K : Nat) : Nat → State
  | 0 => T.pushCell (zro c N T.heap.size 0)
  | i + 1 => ((zms T c comp N K i).pushCell (zri comp K)).setCell T.heap.size (zro c N T.heap.size (i + 1))
theorem zro_0 (c : ClassId) (N h0 : Nat) : zro c N h0 0 = { cls := c, slots := Array.replicate N .null, vm := .none } := by
  rw [arrV_new]
  unfold zro
  congr 1
theorem zri_e (c : ClassId) (K : Nat) : zri c K = { cls := c, slots := Array.replicate K (.long 0), vm := .none } := by
  rw [arrV_new]
  rfl
theorem zro_set (c : ClassId) (N h0 i : Nat) : (zro c N h0 i).setSlot i (.ref (h0 + 1 + i)) = zro c N h0 (i + 1) := by
  unfold zro
  rw [arrV_store]
  congr 1
  funext j
  unfold updV
  by_cases e : j = i
  · rw [if_pos e, if_pos (by omega), e]
  · rw [if_neg e]
    show (if j < i then Value.ref (h0 + 1 + j) else Value.null) = _
    by_cases q : j < i
    · rw [if_pos q, if_pos (by omega)]
    · rw [if_neg q, if_neg (by omega)]
theorem zms_f (T : State) (c comp : ClassId) (N K : Nat) : ∀ i, (zms T c comp N K i).heap.size = T.heap.size + 1 + i ∧ (zms T c comp N K i).heap[T.heap.size]? = some (zro c N T.heap.size i) ∧ (zms T c comp N K i).vm = T.vm ∧ (zms T c comp N K i).slotsUsed = T.slotsUsed + N + i * K ∧ (∀ a : Nat, a < T.heap.size → (zms T c comp N K i).heap[a]? = T.heap[a]?) ∧ ∀ j : Nat, j < i → (zms T c comp N K i).heap[T.heap.size + 1 + j]? = some (zri comp K)
  | 0 => ⟨by simp [zms], by simp [zms], rfl, by simp [zms, zro, arrV], fun a ha => State.heap_pushCell_of_lt _ _ ha, fun j hj => absurd hj (Nat.not_lt_zero _)⟩
  | i + 1 => by
    obtain ⟨a, b, d, u, o, q⟩ := zms_f T c comp N K i
    have hlt : T.heap.size < (zms T c comp N K i).heap.size := by omega
    have hb2 : ((zms T c comp N K i).pushCell (zri comp K)).heap[T.heap.size]? = some (zro c N T.heap.size i) := by
      rw [State.heap_pushCell_of_lt (h := hlt)]
      exact b
    refine ⟨?_, State.heap_setCell_self hb2, by simp [zms, d], ?_, fun x hx => ?_, fun j hj => ?_⟩
    · simp [zms, State.setCell, a]
      omega
    · simp [zms, u, zri, arrV, Nat.succ_mul]
      omega
    · show (((zms T c comp N K i).pushCell (zri comp K)).setCell T.heap.size _).heap[x]? = _
      rw [State.heap_setCell_other (Nat.ne_of_gt hx), State.heap_pushCell_of_lt (h := Nat.lt_of_lt_of_le hx (by omega))]
      exact o x hx
    · show (((zms T c comp N K i).pushCell (zri comp K)).setCell T.heap.size _).heap[T.heap.size + 1 + j]? = _
      rw [State.heap_setCell_other (show T.heap.size ≠ T.heap.size + 1 + j by omega)]
      by_cases e : j = i
      · subst e
        rw [← a]
        exact State.heap_pushCell_size _ _
      · rw [State.heap_pushCell_of_lt (h := show T.heap.size + 1 + j < (zms T c comp N K i).heap.size by rw [a]; omega)]
        exact q j (by omega)
theorem zms_top (T : State) (f : JFrame) (c comp : ClassId) (N K : Nat) : ∀ i, zms (T.setTop f) c comp N K i = (zms T c comp N K i).setTop f
  | 0 => rfl
  | i + 1 => by
    show ((zms (T.setTop f) c comp N K i).pushCell (zri comp K)).setCell T.heap.size _ = _
    rw [zms_top T f c comp N K i]
    rfl
section ZMU
variable {p : Program} {l : Launch} {e : Env} {R : Room} {s : State} {m : MethodId} {args : Array Value} {below : List Frame} {meth : Method} {c : Code} {T : State} {locs : List Loc} {cells slots : Nat}
theorem zms_X (X : Stand p l e R s m args below meth c T locs cells slots) (cA comp : ClassId) (N K : Nat) : ∀ i, Stand p l e R s m args below meth c (zms T cA comp N K i) (locs ++ (List.range i).map fun j => (⟨T.heap.size, j⟩ : Loc)) (cells + 1 + i) (slots + N + i * K)
  | 0 => by
    have h := X.pushed (zro cA N T.heap.size 0)
    rw [show (zro cA N T.heap.size 0).slots.size = N from arrV_size _ _ _] at h
    simpa [zms] using h
  | i + 1 => by
    have Xi := zms_X X cA comp N K i
    obtain ⟨a, b, -⟩ := zms_f T cA comp N K i
    have hlt : T.heap.size < (zms T cA comp N K i).heap.size := by rw [a]; omega
    have hcell : ((zms T cA comp N K i).pushCell (zri comp K)).heap[T.heap.size]? = some (zro cA N T.heap.size i) := by
      rw [State.heap_pushCell_of_lt (h := hlt)]
      exact b
    have h := (Xi.pushed (zri comp K)).stored hcell i (.ref (T.heap.size + 1 + i))
    rw [show (zri comp K).slots.size = K from arrV_size _ _ _, zro_set] at h
    rw [List.range_succ, List.map_append, ← List.append_assoc, show slots + N + (i + 1) * K = slots + N + i * K + K by rw [Nat.succ_mul]; omega]
    exact h
end ZMU
section ZMW
variable {E : CtlPost} {e : Env} {d : Bool} {acts : List Action} {s : State}
theorem zwp_1 {comp cc : ClassId} {kc : Class} {k : Int32} (hkc : s.vm.classes[comp]? = some kc) (hkind : kc.kind = .array cc .long) (hk : ¬ k < 0) (hl : ¬ k.toNatClampNeg > e.platform.arrayLengthLimit) (hh : ¬ k.toNatClampNeg * componentBytes .long > e.platform.maxHeapBytes) (h1 : s.heap.size < e.platform.maxCells) (h2 : s.slotsUsed + k.toNatClampNeg ≤ e.platform.maxSlots) {Q : Addr → Pre} (hq : ∀ acts2, Q s.heap.size d acts2 (s.pushCell (zri comp k.toNatClampNeg))) : wp (multianewarray.make comp [k]) Q E e d acts s := by
  rw [multianewarray.make]
  simp only [wp_bind', W.ite, hk, if_false, wp_pure', W.theClass, hkc, hkind, Option.some.injEq, exists_eq_left']
  exact W.newArray_of hkc hkind hl hh h1 h2 rfl (fun acts2 => by
    have := hq acts2
    rw [zri_e] at this
    exact this)
theorem zwp_2 {cA comp cc : ClassId} {kA kc : Class} {n k : Int32} (hkA : s.vm.classes[cA]? = some kA) (hkindA : kA.kind = .array comp (.array .long)) (hkc : s.vm.classes[comp]? = some kc) (hkind : kc.kind = .array cc .long) (hn : ¬ n < 0) (hk : ¬ k < 0) (hl1 : ¬ n.toNatClampNeg > e.platform.arrayLengthLimit) (hh1 : ¬ n.toNatClampNeg * componentBytes (.array .long) > e.platform.maxHeapBytes) (hl2 : ¬ k.toNatClampNeg > e.platform.arrayLengthLimit) (hh2 : ¬ k.toNatClampNeg * componentBytes .long > e.platform.maxHeapBytes) (hc : s.heap.size + 1 + n.toNatClampNeg ≤ e.platform.maxCells) (hs : s.slotsUsed + n.toNatClampNeg + n.toNatClampNeg * k.toNatClampNeg ≤ e.platform.maxSlots) {Q : Addr → Pre} (hq : ∀ d2 acts2, Q s.heap.size d2 acts2 (zms s cA comp n.toNatClampNeg k.toNatClampNeg n.toNatClampNeg)) : wp (multianewarray.make cA [n, k]) Q E e d acts s := by
  have hfind : ([k].find? (· < 0)) = none := by simp [hk]
  rw [multianewarray.make]
  simp only [wp_bind', W.ite, hn, if_false, wp_pure', W.theClass, hkA, hkindA, Option.some.injEq, exists_eq_left']
  refine W.newArray_of hkA hkindA hl1 hh1 (by omega) (by have := Nat.zero_le (n.toNatClampNeg * k.toNatClampNeg); omega) rfl (fun acts1 => ?_)
  rw [← zro_0 cA n.toNatClampNeg s.heap.size]
  simp only [hfind]
  rw [ite_self, wp_bind', Std.Legacy.Range.forIn_eq_forIn_range']
  rw [show ([:n.toNatClampNeg] : Std.Legacy.Range).size = n.toNatClampNeg by simp [Std.Legacy.Range.size]]
  refine wp_forIn_inv (fun rest s2 => ∃ i, i ≤ n.toNatClampNeg ∧ rest = List.range' i (n.toNatClampNeg - i) ∧ s2 = zms s cA comp n.toNatClampNeg k.toNatClampNeg i) _ _ ⟨0, Nat.zero_le _, rfl, rfl⟩ ?_ ?_
  · rintro x rest s2 d2 acts2 Q2 ⟨i, hi, hr, rfl⟩ hnext
    have hlt : i < n.toNatClampNeg := by
      rcases Nat.lt_or_ge i n.toNatClampNeg with h | h
      · exact h
      · rw [show n.toNatClampNeg - i = 0 by omega] at hr
        simp at hr
    rw [show n.toNatClampNeg - i = (n.toNatClampNeg - (i + 1)) + 1 by omega, List.range'_succ] at hr
    obtain ⟨rfl, hr2⟩ := List.cons.inj hr
    obtain ⟨f1, f2, f3, f4, -⟩ := zms_f s cA comp n.toNatClampNeg k.toNatClampNeg x
    have hmul : x * k.toNatClampNeg + k.toNatClampNeg ≤ n.toNatClampNeg * k.toNatClampNeg := by
      have := Nat.mul_le_mul_right k.toNatClampNeg (show x + 1 ≤ n.toNatClampNeg from hlt)
      rw [Nat.succ_mul] at this
      exact this
    simp only [wp_bind']
    refine zwp_1 (by rw [f3]; exact hkc) hkind hk hl2 hh2 (by rw [f1]; omega) (by rw [f4]; omega) (fun acts3 => ?_)
    have hlt0 : s.heap.size < (zms s cA comp n.toNatClampNeg k.toNatClampNeg x).heap.size := by rw [f1]; omega
    simp only [wp_bind', W.writeLoc, wp_pure']
    refine ⟨zro cA n.toNatClampNeg s.heap.size x, by rw [State.heap_pushCell_of_lt (h := hlt0)]; exact f2, (fun z => (by cases z)), by rw [show (zro cA n.toNatClampNeg s.heap.size x).slots.size = n.toNatClampNeg from arrV_size _ _ _]; exact hlt, ?_, hnext _ _ _ ⟨x + 1, hlt, hr2, ?_⟩⟩
    · simp [State.fitsSlot, State.slotType?, zro, arrV, f3, hkA, hkindA, fits]
    · rw [f1, zro_set]
      rfl
  · rintro s2 d2 acts2 ⟨i, hi, hr, rfl⟩
    have hin : i = n.toNatClampNeg := by
      rcases Nat.lt_or_ge i n.toNatClampNeg with h | h
      · rw [show n.toNatClampNeg - i = (n.toNatClampNeg - (i + 1)) + 1 by omega, List.range'_succ] at hr
        cases hr
      · omega
    subst hin
    simp only [wp_pure']
    exact hq _ _
end ZMW
section ZMR
variable {p : Program} {l : Launch} {e : Env} {R : Room} {s : State} {m : MethodId} {args : Array Value} {below : List Frame} {meth : Method} {c : Code} {H : Heap} {locs : List Loc} {cells slots : Nat} {Q : State → Prop}
theorem zW_multi {cc : ByteArray} (hexec : p.tables.exec = Jvm.exec) (hb : c.code = cc) {own : String} {index : Nat} (hown : s.vm.findClass own = some m.cls) (hclink : (Cond.classLink own index "[[J").before args s = true) (hover : (Cond.arrayOver (.array .long)).before args s = true) (harr : (Cond.arrayClass .long).before args s = true)
    {g : JFrame} (hg : g.method = m) (hdg : decode cc g.pc = .ok (.multianewarray index 2, 4)) {n k : Int32} {N K : Nat} {rest : List Value} (hstack : g.stack = .int k :: .int n :: rest) (hn : ¬ n < 0) (hk : ¬ k < 0) (hN : n.toNatClampNeg = N) (hK : k.toNatClampNeg = K) (hb1 : N ≤ 1000) (hb2 : K ≤ 1000) (hcells : cells + (1 + N) ≤ R.cells) (hslots : slots + (N + N * K) ≤ R.slots)
    (kk : ∀ (H2 : Heap) (locs2 : List Loc) (cA comp : ClassId), s.vm.findClass "[[J" = some cA → s.vm.findClass "[J" = some comp → H2.size = H.size + 1 + N → H2[H.size]? = some (zro cA N H.size N) → (∀ a : Nat, a < H.size → H2[a]? = H[a]?) → (∀ j : Nat, j < N → H2[H.size + 1 + j]? = some (zri comp K)) → (∀ q ∈ locs2, q ∈ locs ∨ q.base = H.size) →
      W p l e R s m args below meth c H2 locs2 (cells + 1 + N) (slots + N + N * K) Q { g with pc := g.pc + 4, stack := .ref H.size :: rest }) : W p l e R s m args below meth c H locs cells slots Q g := by
  intro T hT X
  subst hT; subst hb; subst hg; subst hN; subst hK
  have hpl : e.platform.magicAccessors = ({} : Platform).magicAccessors := by rw [X.admits.platform]
  obtain ⟨comp, cA, kA, hcomp, -, hkA, hkindA, hnameA⟩ := arrayOverA_spec hover
  obtain ⟨comp2, kC, cc2, hcomp2, hkC, hkindC⟩ := Cond.arrayClass_spec harr
  have hcomp2 : s.vm.findClass "[J" = some comp2 := hcomp2
  have hcomp : s.vm.findClass "[J" = some comp := hcomp
  have hnameA : s.vm.findClass "[[J" = some cA := hnameA
  cases hcomp.symm.trans hcomp2
  obtain ⟨c0, hfc0, hcl⟩ := Cond.classLink_spec hown hclink e.platform hpl
  cases hnameA.symm.trans hfc0
  obtain ⟨hg1, hwarm1, hready1⟩ := State.classEntry (e := e) X.warmed hcl
  generalize T.vm.noted g.method.cls index (.cls cA) = vm1 at hg1 hwarm1 hready1
  obtain ⟨kA1, hkA1, heA⟩ := hwarm1.alike.2.2 _ _ hkA
  obtain ⟨kC1, hkC1, heC⟩ := hwarm1.alike.2.2 _ _ hkC
  have X1 := X.noted hwarm1
  have XF := zms_X X1 cA comp n.toNatClampNeg k.toNatClampNeg n.toNatClampNeg
  obtain ⟨r1, r2⟩ := X.roomAbove hcells hslots
  obtain ⟨z1, z2, z3, z4, z5, z6⟩ := zms_f (T.setVm vm1) cA comp n.toNatClampNeg k.toNatClampNeg n.toNatClampNeg
  obtain ⟨t, a1, b1⟩ := kk _ _ cA comp hnameA hcomp z1 z2 z5 z6 (fun q hq => by
    rcases List.mem_append.mp hq with h | h
    · exact Or.inl h
    · obtain ⟨j, -, rfl⟩ := List.mem_map.mp h
      exact Or.inr rfl) (zms (T.setVm vm1) cA comp n.toNatClampNeg k.toNatClampNeg n.toNatClampNeg) rfl XF
  refine ⟨t, ?_, b1⟩
  jvm_step X.here [hexec, hdg]
  simp only [multianewarray.sem, wp_bind', W.resolveClassAt_links (State.method?_setTop g X.here.top) hg1]
  rw [W.popN, if_neg (by decide)]
  refine ⟨g, State.topJava?_setTop' (s := T.setVm vm1) g X.here.top, [.int n, .int k], rest, rfl, hstack, ?_⟩
  simp only [List.mapM_cons, List.mapM_nil, wp_bind', wp_pure']
  refine zwp_2 (kA := kA1) (kc := kC1) (comp := comp) (cc := cc2) hkA1 (by rw [heA]; exact hkindA) hkC1 (by rw [heC]; exact hkindC) hn hk (by rw [Launch.admits_arrayLengthLimit X.admits]; omega) (by rw [Launch.admits_maxHeapBytes X.admits]; show ¬ n.toNatClampNeg * 4 > 536870912; omega) (by rw [Launch.admits_arrayLengthLimit X.admits]; omega) (by rw [Launch.admits_maxHeapBytes X.admits]; show ¬ k.toNatClampNeg * 8 > 536870912; omega) (by show T.heap.size + 1 + _ ≤ _; omega) (by show T.slotsUsed + _ + _ ≤ _; omega) (fun d2 acts2 => ?_)
  rw [show ((T.setTop g).setVm vm1).setTop { g with stack := rest } = (T.setVm vm1).setTop { g with stack := rest } by show ((T.setVm vm1).setTop g).setTop _ = _; rw [State.setTop_setTop], zms_top]
  simp only [wp_bind', W.mark, W.pushRef, State.topJava?_setTop' _ XF.here.top, Option.some.injEq, exists_eq_left', State.setTop_setTop, State.heap_setTop]
  intro acts3
  simp [jvm, XF.here.top]
  exact a1
end ZMR
