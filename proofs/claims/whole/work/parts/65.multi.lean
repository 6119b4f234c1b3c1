/-! a table of rows of longs, made at once. 'zgx': from a state a term gives a value and leaves a state. The heap behind i rows by ONE formula (zhp); the stand goes along with the loop, a row at a time (zti). -/
def zro (c : ClassId) (N h0 i : Nat) : Cell := arrV c N (fun j => if j < i then .ref (h0 + 1 + j) else .null)
def zri (c : ClassId) (K : Nat) : Cell := arrV c K (fun _ => .long 0)
theorem zro_none (c : ClassId) (N h0 : Nat) : zro c N h0 0 = arrV c N (fun _ => .null) := congrArg (arrV c N) (funext fun j => if_neg (Nat.not_lt_zero j))
theorem zro_put (c : ClassId) (N h0 i : Nat) : (zro c N h0 i).setSlot i (.ref (h0 + 1 + i)) = zro c N h0 (i + 1) := by
  refine (arrV_store c N i _ _).trans (congrArg (arrV c N) (funext fun j => ?_))
  show (if j = i then Value.ref (h0 + 1 + i) else if j < i then Value.ref (h0 + 1 + j) else Value.null) = if j < i + 1 then Value.ref (h0 + 1 + j) else Value.null
  rcases Nat.lt_trichotomy j i with q | q | q
  · rw [if_neg (Nat.ne_of_lt q), if_pos q, if_pos (Nat.lt_succ_of_lt q)]
  · rw [if_pos q, q, if_pos (Nat.lt_succ_self i)]
  · rw [if_neg (Nat.ne_of_gt q), if_neg (Nat.lt_asymm q), if_neg (Nat.not_lt.mpr q)]
section ZGV
variable {α β : Type} {e : Env} {s s1 s2 : State}
def zgx (e : Env) (x : Sem α) (s : State) (v : α) (s2 : State) : Prop := ∀ (E : CtlPost) (Q : α → Pre) (d : Bool) (acts : List Action), (∀ d2 acts2, Q v d2 acts2 s2) → wp x Q E e d acts s
theorem zgx_pure (v : α) : zgx e (Pure.pure v) s v s := fun _ _ _ _ hq => hq _ _
theorem zgx_bind {x : Sem α} {f : α → Sem β} {v : α} {w : β} (h1 : zgx e x s v s1) (h2 : zgx e (f v) s1 w s2) : zgx e (x >>= f) s w s2 := fun E Q d acts hq => by
  rw [wp_bind']
  exact h1 _ _ _ _ fun _ _ => h2 _ _ _ _ hq
theorem zgx_put {a i : Nat} {v : Value} {cell : Cell} (h : s.heap[a]? = some cell) (hm : cell.vm ≠ .unknown) (hi : i < cell.slots.size) (hf : s.fitsSlot cell.cls cell.vm i v = true) : zgx e (Jvm.writeLoc a i v) s () (s.setCell a (cell.setSlot i v)) := fun _ _ _ _ hq => ⟨cell, h, hm, hi, hf, hq _ _⟩
theorem zgx_for {f : Nat → PUnit → Sem (ForInStep PUnit)} {N : Nat} (I : Nat → State → Prop) (hs : ∀ i S, i < N → I i S → ∃ S2, I (i + 1) S2 ∧ zgx e (f i PUnit.unit) S (ForInStep.yield PUnit.unit) S2) : ∀ (r a : Nat) (S : State), a + r = N → I a S → ∃ S2, I N S2 ∧ zgx e (forIn (List.range' a r) PUnit.unit f) S PUnit.unit S2
  | 0, a, S, h, hI => ⟨S, by rw [← h]; exact hI, zgx_pure _⟩
  | r + 1, a, S, h, hI => by
    obtain ⟨S1, hI1, g1⟩ := hs a S (by omega) hI
    obtain ⟨S2, hI2, g2⟩ := zgx_for I hs r (a + 1) S1 (by omega) hI1
    refine ⟨S2, hI2, ?_⟩
    rw [List.range'_succ, List.forIn_cons]
    exact zgx_bind g1 g2
theorem zgx_rng {f : Nat → PUnit → Sem (ForInStep PUnit)} {N : Nat} {v : PUnit} (h : zgx e (forIn (List.range' 0 N) PUnit.unit f) s v s2) : zgx e (forIn ([:N] : Std.Legacy.Range) PUnit.unit f) s v s2 := by
  have hN : ([:N] : Std.Legacy.Range).size = N := by simp [Std.Legacy.Range.size]
  rw [Std.Legacy.Range.forIn_eq_forIn_range', hN]
  exact h
theorem zgx_fit {cA comp : ClassId} {kA : Class} (hkA : s.vm.classes[cA]? = some kA) (hkindA : kA.kind = .array comp (.array .long)) (i a : Nat) : s.fitsSlot cA .none i (.ref a) = true := by
  have t : s.slotType? cA .none i = some (.array .long) := by simp [State.slotType?, hkA, hkindA]
  rw [State.fitsSlot, t]
  rfl
theorem zgx_row {comp cc : ClassId} {kc : Class} {k : Int32} {K : Nat} (hkc : s.vm.classes[comp]? = some kc) (hkind : kc.kind = .array cc .long) (hk : ¬ k < 0) (hK : k.toNatClampNeg = K) (hl : ¬ K > e.platform.arrayLengthLimit) (hh : ¬ K * componentBytes .long > e.platform.maxHeapBytes) (h1 : s.heap.size < e.platform.maxCells) (h2 : s.slotsUsed + K ≤ e.platform.maxSlots) : zgx e (multianewarray.make comp [k]) s s.heap.size (s.pushCell (zri comp K)) := fun E Q d acts hq => by
  subst hK
  unfold multianewarray.make
  rw [if_neg hk, wp_bind', W.theClass]
  refine ⟨kc, hkc, ?_⟩
  rw [hkind]
  refine W.newArray_of hkc hkind hl hh h1 h2 rfl fun acts2 => ?_
  have q := hq d acts2
  rw [zri, ← arrV_new] at q
  exact q
end ZGV
def zhp (H : Heap) (cA comp : ClassId) (N K i : Nat) (G : Heap) : Prop := G.size = H.size + 1 + i ∧ ∀ a : Nat, G[a]? = if a < H.size then H[a]? else if a = H.size then some (zro cA N H.size i) else if a < H.size + 1 + i then some (zri comp K) else none
theorem zhp_0 (H : Heap) (cA comp : ClassId) (N K : Nat) : zhp H cA comp N K 0 (H.push (zro cA N H.size 0)) := ⟨Array.size_push _, fun a => by
  rw [Array.getElem?_push]
  rcases Nat.lt_trichotomy a H.size with q | q | q
  · rw [if_neg (Nat.ne_of_lt q), if_pos q]
  · rw [if_pos q, if_neg (by omega), if_pos q]
  · rw [if_neg (Nat.ne_of_gt q), if_neg (Nat.lt_asymm q), if_neg (Nat.ne_of_gt q), if_neg (by omega)]
    exact Array.getElem?_eq_none (Nat.le_of_lt q)⟩
theorem zhp_top {H G : Heap} {cA comp : ClassId} {N K i : Nat} (h : zhp H cA comp N K i G) : G[H.size]? = some (zro cA N H.size i) := by
  rw [h.2, if_neg (Nat.lt_irrefl _), if_pos rfl]
theorem zhp_old {H G : Heap} {cA comp : ClassId} {N K i : Nat} (h : zhp H cA comp N K i G) (a : Nat) (q : a < H.size) : G[a]? = H[a]? := by
  rw [h.2, if_pos q]
theorem zhp_row {H G : Heap} {cA comp : ClassId} {N K i : Nat} (h : zhp H cA comp N K i G) (j : Nat) (q : j < i) : G[H.size + 1 + j]? = some (zri comp K) := by
  rw [h.2, if_neg (by omega), if_neg (by omega), if_pos (by omega)]
theorem zhp_s {H G : Heap} {cA comp : ClassId} {N K i : Nat} (h : zhp H cA comp N K i G) : zhp H cA comp N K (i + 1) ((G.push (zri comp K)).setIfInBounds H.size (zro cA N H.size (i + 1))) := ⟨by rw [Array.size_setIfInBounds, Array.size_push, h.1]; omega, fun a => by
  have hs := h.1
  rw [Array.getElem?_setIfInBounds, Array.size_push, Array.getElem?_push]
  rcases Nat.lt_trichotomy a H.size with q | q | q
  · rw [if_neg (Nat.ne_of_gt q), if_neg (by omega), if_pos q]
    exact zhp_old h a q
  · rw [if_pos q.symm, if_pos (by omega), if_neg (by omega), if_pos q]
  · rw [if_neg (Nat.ne_of_lt q), if_neg (Nat.lt_asymm q), if_neg (Nat.ne_of_gt q)]
    by_cases q2 : a = G.size
    · rw [if_pos q2, if_pos (by omega)]
    · rw [if_neg q2, h.2, if_neg (Nat.lt_asymm q), if_neg (Nat.ne_of_gt q)]
      by_cases q3 : a < H.size + 1 + i
      · rw [if_pos q3, if_pos (by omega)]
      · rw [if_neg q3, if_neg (by omega)]⟩
section ZTI
variable {p : Program} {l : Launch} {e : Env} {R : Room} {s : State} {m : MethodId} {args : Array Value} {below : List Frame} {meth : Method} {c : Code} {H : Heap} {locs : List Loc} {cells slots : Nat} {Q : State → Prop}
def zti (p : Program) (l : Launch) (e : Env) (R : Room) (s : State) (m : MethodId) (args : Array Value) (below : List Frame) (meth : Method) (c : Code) (locs : List Loc) (cells slots : Nat) (g : JFrame) (V : Vm) (H : Heap) (cA comp : ClassId) (N K i : Nat) (S : State) : Prop := ∃ (U : State) (L : List Loc), S = U.setTop g ∧ U.vm = V ∧ zhp H cA comp N K i U.heap ∧ (∀ q ∈ L, q ∈ locs ∨ q.base = H.size) ∧ Stand p l e R s m args below meth c U L (cells + 1 + i) (slots + N + i * K)
theorem zti_s {g : JFrame} {V : Vm} {cA comp cc : ClassId} {kA kc : Class} {k : Int32} {N K i : Nat} {S : State} (hkA : V.classes[cA]? = some kA) (hkindA : kA.kind = .array comp (.array .long)) (hkc : V.classes[comp]? = some kc) (hkind : kc.kind = .array cc .long) (hk : ¬ k < 0) (hK : k.toNatClampNeg = K) (hb : K ≤ 1000) (hcells : cells + (1 + N) ≤ R.cells) (hslots : slots + (N + N * K) ≤ R.slots) (hi : i < N) (h : zti p l e R s m args below meth c locs cells slots g V H cA comp N K i S) : ∃ S2, zti p l e R s m args below meth c locs cells slots g V H cA comp N K (i + 1) S2 ∧ zgx e (multianewarray.make comp [k] >>= fun a => Jvm.writeLoc H.size i (.ref a) >>= fun _ => Pure.pure (ForInStep.yield PUnit.unit)) S (ForInStep.yield PUnit.unit) S2 := by
  obtain ⟨U, L, rfl, rfl, hG, hL, X⟩ := h
  have hm : (i + 1) * K ≤ N * K := Nat.mul_le_mul_right K hi
  have hm2 : (i + 1) * K = i * K + K := Nat.succ_mul i K
  obtain ⟨r1, r2⟩ := X.roomAbove (a := 1) (b := K) (by omega) (by omega)
  have hs := hG.1
  have htop : (U.pushCell (zri comp K)).heap[H.size]? = some (zro cA N H.size i) := (State.heap_pushCell_of_lt _ _ (show H.size < U.heap.size by omega)).trans (zhp_top hG)
  have X2 := (X.pushed (zri comp K)).stored htop i (.ref (H.size + 1 + i))
  rw [zro_put, show (zri comp K).slots.size = K from arrV_size _ _ _] at X2
  refine ⟨((U.pushCell (zri comp K)).setCell H.size (zro cA N H.size (i + 1))).setTop g, ⟨_, L ++ [⟨H.size, i⟩], rfl, rfl, zhp_s hG, fun q hq => ?_, ?_⟩, ?_⟩
  · rcases List.mem_append.mp hq with w | w
    · exact hL q w
    · rw [List.mem_singleton.mp w]
      exact Or.inr rfl
  · rw [show slots + N + (i + 1) * K = slots + N + i * K + K by omega]
    exact X2
  · refine zgx_bind (zgx_row (s := U.setTop g) hkc hkind hk hK (by rw [Launch.admits_arrayLengthLimit X.admits]; omega) (by rw [Launch.admits_maxHeapBytes X.admits]; show ¬ K * 8 > 536870912; omega) r1 r2) ?_
    have w := zgx_put (e := e) (s := (U.setTop g).pushCell (zri comp K)) (a := H.size) (i := i) (v := .ref (H.size + 1 + i)) htop (fun z => by cases z) (by rw [zro, arrV_size]; exact hi) (zgx_fit (s := (U.setTop g).pushCell (zri comp K)) hkA hkindA _ _)
    rw [zro_put] at w
    rw [show (U.setTop g).heap.size = H.size + 1 + i from hs]
    exact zgx_bind w (zgx_pure _)
theorem zti_all {T : State} {g : JFrame} {cA comp cc : ClassId} {kA kc : Class} {n k : Int32} {N K : Nat} (X : Stand p l e R s m args below meth c T locs cells slots) (hkA : T.vm.classes[cA]? = some kA) (hkindA : kA.kind = .array comp (.array .long)) (hkc : T.vm.classes[comp]? = some kc) (hkind : kc.kind = .array cc .long) (hn : ¬ n < 0) (hk : ¬ k < 0) (hN : n.toNatClampNeg = N) (hK : k.toNatClampNeg = K) (ha : N ≤ 1000) (hb : K ≤ 1000) (hcells : cells + (1 + N) ≤ R.cells) (hslots : slots + (N + N * K) ≤ R.slots) : ∃ S2, zti p l e R s m args below meth c locs cells slots g T.vm T.heap cA comp N K N S2 ∧ zgx e (multianewarray.make cA [n, k]) (T.setTop g) T.heap.size S2 := by
  have X0 := X.pushed (zro cA N T.heap.size 0)
  rw [show (zro cA N T.heap.size 0).slots.size = N from arrV_size _ _ _] at X0
  have h0 : zti p l e R s m args below meth c locs cells slots g T.vm T.heap cA comp N K 0 ((T.pushCell (zro cA N T.heap.size 0)).setTop g) := ⟨_, locs, rfl, rfl, zhp_0 _ _ _ _ _, fun q hq => Or.inl hq, by rw [Nat.zero_mul]; exact X0⟩
  obtain ⟨S2, hI, hg⟩ := zgx_for (e := e) (N := N) (f := fun i _ => multianewarray.make comp [k] >>= fun a => Jvm.writeLoc T.heap.size i (.ref a) >>= fun _ => Pure.pure (ForInStep.yield PUnit.unit)) (zti p l e R s m args below meth c locs cells slots g T.vm T.heap cA comp N K) (fun i S hi h => zti_s hkA hkindA hkc hkind hk hK hb hcells hslots hi h) N 0 _ (Nat.zero_add N) h0
  refine ⟨S2, hI, fun E Q d acts hq => ?_⟩
  obtain ⟨r1, r2⟩ := X.roomAbove (a := 1) (b := N) (by omega) (by omega)
  unfold multianewarray.make
  rw [if_neg hn, wp_bind', W.theClass]
  refine ⟨kA, hkA, ?_⟩
  rw [hkindA]
  rw [wp_bind']
  subst hN
  refine W.newArray_of (s := T.setTop g) hkA hkindA (by rw [Launch.admits_arrayLengthLimit X.admits]; omega) (by rw [Launch.admits_maxHeapBytes X.admits]; show ¬ n.toNatClampNeg * 4 > 536870912; omega) r1 r2 rfl fun acts2 => ?_
  rw [arrV_new]
  have hf : [k].find? (fun x => decide (x < 0)) = none := by simp [hk]
  have q : zgx e (forIn ([:n.toNatClampNeg] : Std.Legacy.Range) PUnit.unit (fun i _ => multianewarray.make comp [k] >>= fun a => Jvm.writeLoc T.heap.size i (.ref a) >>= fun _ => Pure.pure (ForInStep.yield PUnit.unit)) >>= fun _ => Pure.pure T.heap.size) ((T.pushCell (zro cA n.toNatClampNeg T.heap.size 0)).setTop g) T.heap.size S2 := zgx_bind (zgx_rng hg) (zgx_pure _)
  have q2 := q E Q d acts2 hq
  rw [zro_none] at q2
  by_cases hz : (n == 0) = true
  · simp only [hf, hz, if_true]
    exact q2
  · simp only [hz]
    exact q2
theorem zW_multi {cc : ByteArray} (hexec : p.tables.exec = Jvm.exec) (hb : c.code = cc) {own : String} {index : Nat} (hown : s.vm.findClass own = some m.cls) (hclink : (Cond.classLink own index "[[J").before args s = true) (hover : (Cond.arrayOver (.array .long)).before args s = true) (harr : (Cond.arrayClass .long).before args s = true)
    {g : JFrame} (hg : g.method = m) (hdg : decode cc g.pc = .ok (.multianewarray index 2, 4)) {n k : Int32} {N K : Nat} {rest : List Value} (hstack : g.stack = .int k :: .int n :: rest) (hn : ¬ n < 0) (hk : ¬ k < 0) (hN : n.toNatClampNeg = N) (hK : k.toNatClampNeg = K) (hb1 : N ≤ 1000) (hb2 : K ≤ 1000) (hcells : cells + (1 + N) ≤ R.cells) (hslots : slots + (N + N * K) ≤ R.slots)
    (kk : ∀ (H2 : Heap) (locs2 : List Loc) (cA comp : ClassId), s.vm.findClass "[[J" = some cA → s.vm.findClass "[J" = some comp → H2.size = H.size + 1 + N → H2[H.size]? = some (zro cA N H.size N) → (∀ a : Nat, a < H.size → H2[a]? = H[a]?) → (∀ j : Nat, j < N → H2[H.size + 1 + j]? = some (zri comp K)) → (∀ q ∈ locs2, q ∈ locs ∨ q.base = H.size) →
      W p l e R s m args below meth c H2 locs2 (cells + 1 + N) (slots + N + N * K) Q { g with pc := g.pc + 4, stack := .ref H.size :: rest }) : W p l e R s m args below meth c H locs cells slots Q g := by
  rintro T rfl X
  subst hb
  subst hg
  obtain ⟨cA, fA, hcl⟩ := Cond.classLink_spec hown hclink e.platform (by rw [X.admits.platform])
  obtain ⟨comp, cA2, kA, fC, -, hkA, hkindA, fA2⟩ := arrayOverA_spec hover
  obtain ⟨comp2, kC, cL, fC2, hkC, hkindC⟩ := Cond.arrayClass_spec harr
  obtain rfl : cA2 = cA := Option.some.inj (fA2.symm.trans fA)
  obtain rfl : comp2 = comp := Option.some.inj (fC2.symm.trans fC)
  obtain ⟨u1, u2, -⟩ := State.classEntry (e := e) X.warmed hcl
  have XV := X.noted u2
  revert XV u1 u2
  generalize T.vm.noted g.method.cls index (.cls cA2) = V
  intro u1 u2 XV
  obtain ⟨kA2, wA, wA2⟩ := u2.alike.2.2 _ _ hkA
  obtain ⟨kC2, wC, wC2⟩ := u2.alike.2.2 _ _ hkC
  obtain ⟨S2, ⟨U, L, rfl, -, hG, hL, XU⟩, hgo⟩ := zti_all (g := { g with stack := rest }) XV wA (by rw [wA2]; exact hkindA) wC (by rw [wC2]; exact hkindC) hn hk hN hK hb1 hb2 hcells hslots
  obtain ⟨t, a1, b1⟩ := kk U.heap L cA2 comp2 fA fC hG.1 (zhp_top hG) (zhp_old hG) (zhp_row hG) hL U rfl XU
  refine ⟨t, ?_, b1⟩
  jvm_step X.here [hexec, hdg, multianewarray.sem, W.resolveClassAt_links (State.method?_setTop g X.here.top) u1, W.popN]
  refine ⟨[.int n, .int k], rfl, rest, hstack, ?_⟩
  show wp (multianewarray.make cA2 [n, k] >>= fun r => Jvm.mark "op.multianewarray" >>= fun _ => Jvm.pushRef r) _ _ _ _ _ _
  rw [wp_bind']
  refine hgo _ _ _ _ fun d2 acts2 => ?_
  simp [jvm, W.mark, W.pushRef, State.topJava?_setTop' _ XU.here.top, XU.here.top]
  exact a1
end ZTI
