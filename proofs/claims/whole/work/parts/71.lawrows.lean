/-! the law's own walk: two objects stand, a hundred cells -/
def zL (E : zE) (s0 : Nat) (x : zX) (pc : Nat) (lv : List (Nat × Value)) (st : List Value) (M : zM) : Prop :=
  ∀ (H : Heap) (locs : List Loc) (ls : Array Slot), lv_has ls x.2.2.2.2.2.2.2.2.1.maxLocals lv → va_P E.2.1 vwCl (zwd E M) H → va_S (fun q => s0 ≤ q) x.2.2.2.1.heap H locs →
    W x.1 E.1 x.2.1 x.2.2.1 x.2.2.2.1 x.2.2.2.2.1 x.2.2.2.2.2.1 x.2.2.2.2.2.2.1 x.2.2.2.2.2.2.2.1 x.2.2.2.2.2.2.2.2.1 H locs 100 1437 x.2.2.2.2.2.2.2.2.2 (F0 x.2.2.2.2.1 pc ls st)
section ZLR
variable {E : zE} {s0 : Nat} {x : zX} {cc : ByteArray} {own : String} {nL : Nat} {R : Room} {pc : Nat} {lv : List (Nat × Value)} {st : List Value} {M : zM}
theorem zl_iconst (hx : zOk E x cc own nL R) {n : Int} {v : Int32} (d : decode cc pc = .ok (.iconst n, 1)) (hv : Int32.ofInt n = v) (k : zL E s0 x (pc + 1) lv (.int v :: st) M) : zL E s0 x pc lv (st) M := fun H locs ls hl hP hS => lv_iconst hx.1 hx.2.1 d hv (k H locs ls hl hP hS)
theorem zl_bipush (hx : zOk E x cc own nL R) {n : Int} {v : Int32} (d : decode cc pc = .ok (.bipush n, 2)) (hv : (Int8.ofInt n).toInt32 = v) (k : zL E s0 x (pc + 2) lv (.int v :: st) M) : zL E s0 x pc lv (st) M := fun H locs ls hl hP hS => lv_bipush hx.1 hx.2.1 d hv (k H locs ls hl hP hS)
theorem zl_iload_n (hx : zOk E x cc own nL R) (q : Nat) {k : Fin 4} {i : Nat} {v : Int32} (d : decode cc pc = .ok (.iload_n k, 1)) (hi : (k : Nat) = i) (hq : lv[q]? = some (i, .int v)) (kk : zL E s0 x (pc + 1) lv (.int v :: st) M) : zL E s0 x pc lv st M := fun H locs ls hl hP hS => lv_iload_n hx.1 hx.2.1 d hi (lv_at hl q hq) (kk H locs ls hl hP hS)
theorem zl_aload_n (hx : zOk E x cc own nL R) (q : Nat) {k : Fin 4} {i : Nat} {v : Nat} (d : decode cc pc = .ok (.aload_n k, 1)) (hi : (k : Nat) = i) (hq : lv[q]? = some (i, .ref v)) (kk : zL E s0 x (pc + 1) lv (.ref v :: st) M) : zL E s0 x pc lv st M := fun H locs ls hl hP hS => lv_aload_n hx.1 hx.2.1 d hi (lv_at hl q hq) (kk H locs ls hl hP hS)
theorem zl_iadd (hx : zOk E x cc own nL R) {a b : Int32} (d : decode cc pc = .ok (.iadd, 1)) (k : zL E s0 x (pc + 1) lv (.int (a + b) :: st) M) : zL E s0 x pc lv (.int b :: .int a :: st) M := fun H locs ls hl hP hS => lv_iadd hx.1 hx.2.1 d (k H locs ls hl hP hS)
theorem zl_isub (hx : zOk E x cc own nL R) {a b : Int32} (d : decode cc pc = .ok (.isub, 1)) (k : zL E s0 x (pc + 1) lv (.int (a - b) :: st) M) : zL E s0 x pc lv (.int b :: .int a :: st) M := fun H locs ls hl hP hS => lv_isub hx.1 hx.2.1 d (k H locs ls hl hP hS)
theorem zl_iand (hx : zOk E x cc own nL R) {a b : Int32} (d : decode cc pc = .ok (.iand, 1)) (k : zL E s0 x (pc + 1) lv (.int (a &&& b) :: st) M) : zL E s0 x pc lv (.int b :: .int a :: st) M := fun H locs ls hl hP hS => lv_iand hx.1 hx.2.1 d (k H locs ls hl hP hS)
theorem zl_i2l (hx : zOk E x cc own nL R) {a : Int32} (d : decode cc pc = .ok (.i2l, 1)) (k : zL E s0 x (pc + 1) lv (.long a.toInt64 :: st) M) : zL E s0 x pc lv (.int a :: st) M := fun H locs ls hl hP hS => lv_i2l hx.1 hx.2.1 d rfl (k H locs ls hl hP hS)
theorem zl_lshl (hx : zOk E x cc own nL R) {a : Int64} {b : Int32} (d : decode cc pc = .ok (.lshl, 1)) (k : zL E s0 x (pc + 1) lv (.long (a <<< (b.toInt64 &&& 63)) :: st) M) : zL E s0 x pc lv (.int b :: .long a :: st) M := fun H locs ls hl hP hS => lv_lshl hx.1 hx.2.1 d rfl (k H locs ls hl hP hS)
theorem zl_land (hx : zOk E x cc own nL R) {a b : Int64} (d : decode cc pc = .ok (.land, 1)) (k : zL E s0 x (pc + 1) lv (.long (a &&& b) :: st) M) : zL E s0 x pc lv (.long b :: .long a :: st) M := fun H locs ls hl hP hS => lv_land hx.1 hx.2.1 d (k H locs ls hl hP hS)
theorem zl_lor (hx : zOk E x cc own nL R) {a b : Int64} (d : decode cc pc = .ok (.lor, 1)) (k : zL E s0 x (pc + 1) lv (.long (a ||| b) :: st) M) : zL E s0 x pc lv (.long b :: .long a :: st) M := fun H locs ls hl hP hS => lv_lor hx.1 hx.2.1 d (k H locs ls hl hP hS)
theorem zl_lcmp (hx : zOk E x cc own nL R) {a b : Int64} (d : decode cc pc = .ok (.lcmp, 1)) (k : zL E s0 x (pc + 1) lv (.int (lg_cmp a b) :: st) M) : zL E s0 x pc lv (.long b :: .long a :: st) M := fun H locs ls hl hP hS => W.lcmp hx.1 hx.2.1 d (k H locs ls hl hP hS)
theorem zl_if_eq (hx : zOk E x cc own nL R) {x0 : Int32} {off : Int} {tgt : Nat} (d : decode cc pc = .ok (.ifCond .eq off, 3)) (ht : (pc : Int) + off = (tgt : Int)) (kt : x0 = 0 → zL E s0 x tgt lv st M) (kf : ¬ x0 = 0 → zL E s0 x (pc + 3) lv st M) : zL E s0 x pc lv (.int x0 :: st) M := fun H locs ls hl hP hS => lv_if_eq hx.1 hx.2.1 d ht (fun q => kt q H locs ls hl hP hS) (fun q => kf q H locs ls hl hP hS)
theorem zl_icmp_eq (hx : zOk E x cc own nL R) {x0 y0 : Int32} {off : Int} {tgt : Nat} (d : decode cc pc = .ok (.if_icmp .eq off, 3)) (ht : (pc : Int) + off = (tgt : Int)) (kt : x0 = y0 → zL E s0 x tgt lv st M) (kf : ¬ x0 = y0 → zL E s0 x (pc + 3) lv st M) : zL E s0 x pc lv (.int y0 :: .int x0 :: st) M := fun H locs ls hl hP hS => lv_icmp_eq hx.1 hx.2.1 d ht (fun q => kt q H locs ls hl hP hS) (fun q => kf q H locs ls hl hP hS)
theorem zl_icmp_gt (hx : zOk E x cc own nL R) {x0 y0 : Int32} {off : Int} {tgt : Nat} (d : decode cc pc = .ok (.if_icmp .gt off, 3)) (ht : (pc : Int) + off = (tgt : Int)) (kt : y0 < x0 → zL E s0 x tgt lv st M) (kf : ¬ y0 < x0 → zL E s0 x (pc + 3) lv st M) : zL E s0 x pc lv (.int y0 :: .int x0 :: st) M := fun H locs ls hl hP hS => lv_icmp_gt hx.1 hx.2.1 d ht (fun q => kt q H locs ls hl hP hS) (fun q => kf q H locs ls hl hP hS)
theorem zl_goto (hx : zOk E x cc own nL R) {off : Int} {tgt : Nat} (d : decode cc pc = .ok (.goto off, 3)) (ht : (pc : Int) + off = (tgt : Int)) (k : zL E s0 x tgt lv st M) : zL E s0 x pc lv st M := fun H locs ls hl hP hS => lv_goto hx.1 hx.2.1 d ht (k H locs ls hl hP hS)
theorem zl_tableIn (hx : zOk E x cc own nL R) {dflt lo hi : Int} {offs : Array Int} {len : Nat} {x0 : Int32} {off : Int} {tgt : Nat} (d : decode cc pc = .ok (.tableswitch dflt lo hi offs, len)) (h1 : ¬ x0.toInt < lo) (h2 : ¬ hi < x0.toInt) (ho : offs[(x0.toInt - lo).toNat]? = some off) (ht : (pc : Int) + off = (tgt : Int)) (k : zL E s0 x tgt lv st M) : zL E s0 x pc lv (.int x0 :: st) M := fun H locs ls hl hP hS => lv_tableIn hx.1 hx.2.1 d h1 h2 ho ht (k H locs ls hl hP hS)
theorem zl_tableOut (hx : zOk E x cc own nL R) {dflt lo hi : Int} {offs : Array Int} {len : Nat} {x0 : Int32} {tgt : Nat} (d : decode cc pc = .ok (.tableswitch dflt lo hi offs, len)) (h : x0.toInt < lo ∨ hi < x0.toInt) (ht : (pc : Int) + dflt = (tgt : Int)) (k : zL E s0 x tgt lv st M) : zL E s0 x pc lv (.int x0 :: st) M := fun H locs ls hl hP hS => lv_tableOut hx.1 hx.2.1 d h ht (k H locs ls hl hP hS)
theorem zl_ldc2 (hx : zOk E x cc own nL R) {index : Nat} {v : Int64} (hw : Cond.constantLong own index v ∈ zU) (d : decode cc pc = .ok (.ldc2_w index, 3)) (k : zL E s0 x (pc + 3) lv (.long v :: st) M) : zL E s0 x pc lv st M := fun H locs ls hl hP hS => lv_ldc2 hx.1 hx.2.1 hx.2.2.2.1 (hx.2.2.2.2.1 _ hw) d (k H locs ls hl hP hS)
theorem zl_iinc (hx : zOk E x cc own nL R) (q : Nat) {i : Nat} {n : Int} {v w : Int32} {lv2 : List (Nat × Value)} (d : decode cc pc = .ok (.iinc i n, 3)) (hq : lv[q]? = some (i, .int v)) (hv : v + Int32.ofInt n = w) (hn : i < nL) (hl2 : (i, Value.int w) :: lv.filter (fun q => !(q.1 == i) && !(q.1 + 1 == i && q.2.category == 2)) = lv2) (kk : zL E s0 x (pc + 3) lv2 st M) : zL E s0 x pc lv st M := fun H locs ls hl hP hS => lv_iinc hx.1 hx.2.1 d hl hq hv (by rw [hx.2.2.1]; exact hn) hl2 (fun ls hl => kk H locs ls hl hP hS)
theorem zl_iadd_n (hx : zOk E x cc own nL R) {a b : Nat} (d : decode cc pc = .ok (.iadd, 1)) (k : zL E s0 x (pc + 1) lv (.int (nI (a + b)) :: st) M) : zL E s0 x pc lv (.int (nI b) :: .int (nI a) :: st) M := zl_iadd hx d (by rw [nI_add]; exact k)
theorem zl_bool (hx : zOk E x cc own nL R) {v : Int32} (d1 : decode cc pc = .ok (.ifCond .eq 7, 3)) (d2 : decode cc (pc + 3) = .ok (.iconst 1, 1)) (d3 : decode cc (pc + 3 + 1) = .ok (.goto 4, 3)) (d4 : decode cc (pc + 7) = .ok (.iconst 0, 1)) (kk : zL E s0 x (pc + 8) lv (.int (zdr (!decide (v = 0))) :: st) M) : zL E s0 x pc lv (.int v :: st) M := by
  refine zl_if_eq (tgt := pc + 7) hx d1 (by omega) (fun h => ?_) (fun h => ?_)
  · refine zl_iconst (v := zdr (!decide (v = 0))) hx d4 ?_ kk
    rw [decide_eq_true h]
    decide +kernel
  · refine zl_iconst (v := zdr (!decide (v = 0))) hx d2 ?_ (zl_goto (tgt := pc + 8) hx d3 (by omega) kk)
    rw [decide_eq_false h]
    decide +kernel
theorem zl_sld (hx : zOk E x cc own nL R) {b L k : Nat} {xs : Nat → Int32} (hX : va_X b L xs x.2.2.2.1 x.2.2.2.1.heap) (hb : b < x.2.2.2.1.heap.size) (hs : x.2.2.2.1.heap.size = s0) (hL : L ≤ 2048) (hk : k < L) (d : decode cc pc = .ok (.iaload, 1)) (kk : zL E s0 x (pc + 1) lv (.int (xs k) :: st) M) : zL E s0 x pc lv (.int (nI k) :: .ref b :: st) M := fun H locs ls hl hP hS => va_sld hx.1 hx.2.1 hX hb (by show ¬ s0 ≤ b; omega) hS (vp_in_nI hk (by omega)) d (by rw [nI_clamp (by omega)]; exact kk H locs ls hl hP hS)
theorem zl_slen (hx : zOk E x cc own nL R) {b L : Nat} {xs : Nat → Int32} (hX : va_X b L xs x.2.2.2.1 x.2.2.2.1.heap) (hb : b < x.2.2.2.1.heap.size) (hs : x.2.2.2.1.heap.size = s0) (d : decode cc pc = .ok (.arraylength, 1)) (kk : zL E s0 x (pc + 1) lv (.int (nI L) :: st) M) : zL E s0 x pc lv (.ref b :: st) M := fun H locs ls hl hP hS => va_slen hx.1 hx.2.1 hX hb (by show ¬ s0 ≤ b; omega) hS d (kk H locs ls hl hP hS)
theorem zl_to {lv2 : List (Nat × Value)} (k : zL E s0 x pc lv2 st M) (ks : List Nat) (h : lv_pick lv ks = lv2) : zL E s0 x pc lv st M := fun H locs ls hl hP hS => k H locs ls (lv_sub hl ks h) hP hS
theorem zl_run {H : Heap} {locs : List Loc} {ls : Array Slot} {st0 : List Value} {P : Option Value → zM → Prop} (hA : ∀ c, s0 ≤ E.2.2.2 c) (hr : va_Run x.1 E.1 x.2.1 x.2.2.1 x.2.2.2.1 x.2.2.2.2.1 x.2.2.2.2.2.1 x.2.2.2.2.2.2.1 x.2.2.2.2.2.2.2.1 x.2.2.2.2.2.2.2.2.1 H locs 100 1437 0 0 (F0 x.2.2.2.2.1 pc ls st0) st (fun s0 oc t => (∃ (r : Option Value) (M2 : zM), oc = .returned r ∧ P r M2 ∧ va_P E.2.1 vwCl (zwd E M2) t.heap) ∧ va_F (zA E) s0 t) (zA E)) (hl : lv_has ls x.2.2.2.2.2.2.2.2.1.maxLocals lv) (hS : va_S (fun q => s0 ≤ q) x.2.2.2.1.heap H locs) (kk : ∀ (r : Option Value) (M2 : zM), P r M2 → zL E s0 x (pc + 3) lv (r.toList ++ st) M2) : W x.1 E.1 x.2.1 x.2.2.1 x.2.2.2.1 x.2.2.2.2.1 x.2.2.2.2.2.1 x.2.2.2.2.2.2.1 x.2.2.2.2.2.2.2.1 x.2.2.2.2.2.2.2.2.1 H locs 100 1437 x.2.2.2.2.2.2.2.2.2 (F0 x.2.2.2.2.1 pc ls st0) := by
  have hsub : ∀ q, zA E q → s0 ≤ q := fun q ⟨c, _, e⟩ => by rw [e]; exact hA c
  intro T hT X
  obtain ⟨v, st₀, t, T', L, h0, X', hL, e1, e2, ⟨⟨r, M2, hv, hp, hb⟩, hz, hk⟩, stp⟩ := hr T hT X
  cases hv
  rw [h0] at hz hk
  obtain ⟨t2, a1, b1⟩ := kk _ M2 hp T'.heap (locs ++ L) ls hl (by rw [e1]; exact hb)
    ⟨Nat.le_trans hS.1 (by rw [e1]; exact hz), fun q h1 h2 => by rw [e1, hk q (Nat.lt_of_lt_of_le h1 hS.1) (fun z => h2 (hsub q z))]; exact hS.2.1 q h1 h2, fun q hq => by
      rcases List.mem_append.mp hq with h | h
      · exact hS.2.2 q h
      · exact hsub _ (hL q h)⟩ T' rfl X'
  exact ⟨t2, stp t2 a1, b1⟩
theorem zl_callV (hx : zOk E x cc own nL R) (hA : ∀ c, s0 ≤ E.2.2.2 c) (hRc : 100 ≤ R.cells ∧ 1437 ≤ R.slots) {y : MethodName} {bytes : ByteArray} {maxL index n c ci : Nat} {q : vw_C} {ret : Option FieldType} {rm : Room} {As stk : List Value} {P : Option Value → zM → Prop} (hM : zK E y (.code y bytes maxL ret) rm (.ref (E.2.2.2 c) :: As) M P)
    (w1 : Cond.methodLink own index y ∈ zU) (hy : zYV y bytes maxL ret n) (hrm : rm.cells = 0 ∧ rm.slots = 0) (hR : rm.frames + 1 ≤ R.frames ∧ 8 + (maxL + 11) + rm.locals ≤ R.locals)
    (hob : zOB E c ci) (hci : vwCl[ci]? = some q) (hq : q.1 = y.cls) (hn : As.length = n) (hstk : stk = As.reverse ++ .ref (E.2.2.2 c) :: st) (hW : (st.map fun v => v.category).sum ≤ 8) (d : decode cc pc = .ok (.invokevirtual index, 3)) (kk : ∀ (r : Option Value) (M2 : zM), P r M2 → zL E s0 x (pc + 3) lv (r.toList ++ st) M2) : zL E s0 x pc lv stk M := fun H locs ls hl2 hP hS => by
  subst hstk
  obtain ⟨w2, w3, w4, w5, hd⟩ := hy
  obtain ⟨hc, hs⟩ := hob
  obtain ⟨fs, hs⟩ := hs (M.1 c) (M.2 c)
  have hR2 : 100 ≤ x.2.2.1.cells ∧ 1437 ≤ x.2.2.1.slots := by rw [hx.2.2.2.2.2.2.2]; exact hRc
  refine zl_run hA (va_runV (bytes := bytes) (maxL := maxL) (ret := ret) (C := y.cls) (As := As) (rest := st) ⟨hx.1, hx.2.1, hx.2.2.1, hx.2.2.2.1, hx.2.2.2.2.1⟩ hM ?_ ⟨zBlind E M _, ?_, fun U hU hWm => ⟨rfl, by rw [hU]; exact hP, hx.2.2.2.2.2.1.warm hWm⟩⟩ rfl hn (by show ls.size = nL; rw [hl2.1, hx.2.2.1]) rfl (lv_room hW) d ⟨by show 100 + 0 ≤ _; exact hR2.1, by show 1437 + 0 ≤ _; exact hR2.2⟩) hl2 hS kk
  · have hR' : rm.frames + 1 ≤ x.2.2.1.frames ∧ 8 + (maxL + 11) + rm.locals ≤ x.2.2.1.locals := by rw [hx.2.2.2.2.2.2.2]; exact hR
    exact ⟨callB_of n hx.2.2.2.2.1 (zU_cons w5) rfl hrm.1 hrm.2 (hx.2.2.2.2.1 _ w4) (hx.2.2.2.2.1 _ w1) ⟨hd.1.1, hd.1.2, hd.2⟩ hR', hx.2.2.2.2.1 _ w2, hx.2.2.2.2.1 _ w3⟩
  · rw [← hq]
    exact va_recv hx.2.2.2.2.2.1.1 hP hci ((zwd_get E M hc).trans (by rw [hs]))
theorem zl_callVs (hx : zOk E x cc own nL R) (hz : zZs E x.2.2.2.1) (hs0 : x.2.2.2.1.heap.size = s0) (hA : ∀ c, s0 ≤ E.2.2.2 c) (hRc : 100 ≤ R.cells ∧ 1437 ≤ R.slots) {y : MethodName} {bytes : ByteArray} {maxL index n c ci : Nat} {q : vw_C} {ret : Option FieldType} {rm : Room} {As stk : List Value} {P : Option Value → zM → Prop} (hM : zKs E y (.code y bytes maxL ret) rm (.ref (E.2.2.2 c) :: As) M P)
    (w1 : Cond.methodLink own index y ∈ zU) (hy : zYV y bytes maxL ret n) (hrm : rm.cells = 0 ∧ rm.slots = 0) (hR : rm.frames + 1 ≤ R.frames ∧ 8 + (maxL + 11) + rm.locals ≤ R.locals)
    (hob : zOB E c ci) (hci : vwCl[ci]? = some q) (hq : q.1 = y.cls) (hn : As.length = n) (hstk : stk = As.reverse ++ .ref (E.2.2.2 c) :: st) (hW : (st.map fun v => v.category).sum ≤ 8) (d : decode cc pc = .ok (.invokevirtual index, 3)) (kk : ∀ (r : Option Value) (M2 : zM), P r M2 → zL E s0 x (pc + 3) lv (r.toList ++ st) M2) : zL E s0 x pc lv stk M := fun H locs ls hl2 hP hS => by
  subst hstk
  obtain ⟨w2, w3, w4, w5, hd⟩ := hy
  obtain ⟨hc, hs⟩ := hob
  obtain ⟨fs, hs⟩ := hs (M.1 c) (M.2 c)
  have hR2 : 100 ≤ x.2.2.1.cells ∧ 1437 ≤ x.2.2.1.slots := by rw [hx.2.2.2.2.2.2.2]; exact hRc
  have hS2 : va_S (zA E) x.2.2.2.1.heap H [] := ⟨hS.1, fun q h1 _ => hS.2.1 q h1 (by show ¬ s0 ≤ q; omega), fun q hq => by cases hq⟩
  refine zl_run hA (va_runV (bytes := bytes) (maxL := maxL) (ret := ret) (C := y.cls) (As := As) (rest := st) ⟨hx.1, hx.2.1, hx.2.2.1, hx.2.2.2.1, hx.2.2.2.2.1⟩ hM ?_ ⟨zBlindS E M _, ?_, fun U hU hWm => ⟨rfl, ⟨by rw [hU]; exact hP, hx.2.2.2.2.2.1.warm hWm⟩, hz.warm (locs := []) hWm (by rw [hU]; exact hS2)⟩⟩ rfl hn (by show ls.size = nL; rw [hl2.1, hx.2.2.1]) rfl (lv_room hW) d ⟨by show 100 + 0 ≤ _; exact hR2.1, by show 1437 + 0 ≤ _; exact hR2.2⟩) hl2 hS kk
  · have hR' : rm.frames + 1 ≤ x.2.2.1.frames ∧ 8 + (maxL + 11) + rm.locals ≤ x.2.2.1.locals := by rw [hx.2.2.2.2.2.2.2]; exact hR
    exact ⟨callB_of n hx.2.2.2.2.1 (zU_cons w5) rfl hrm.1 hrm.2 (hx.2.2.2.2.1 _ w4) (hx.2.2.2.2.1 _ w1) ⟨hd.1.1, hd.1.2, hd.2⟩ hR', hx.2.2.2.2.1 _ w2, hx.2.2.2.2.1 _ w3⟩
  · rw [← hq]
    exact va_recv hx.2.2.2.2.2.1.1 hP hci ((zwd_get E M hc).trans (by rw [hs]))
end ZLR
/-- what the law's walk stands on -/
def zLw (E : zE) (s0 : Nat) (x : zX) (b L : Nat) (xs : Nat → Int32) : Prop := zOk E x cL_law RL 4 room_1 ∧ va_X b L xs x.2.2.2.1 x.2.2.2.1.heap ∧ b < x.2.2.2.1.heap.size ∧ x.2.2.2.1.heap.size = s0 ∧ L ≤ 2048 ∧ (∀ c, s0 ≤ E.2.2.2 c) ∧ zZs E x.2.2.2.1
abbrev zlv (E : zE) (b i : Nat) : List (Nat × Value) := [(3, .int (nI i)), (2, .ref (E.2.2.2 32)), (1, .ref (E.2.2.2 0)), (0, .ref b)]
theorem zRc : 100 ≤ room_1.cells ∧ 1437 ≤ room_1.slots := ⟨Nat.le_of_ble_eq_true rfl, Nat.le_of_ble_eq_true rfl⟩
