def zfac : Nat → Nat
  | 0 => 1
  | n + 1 => (n + 1) * zfac n
theorem zfac_le : ∀ n, n < 9 → 1 ≤ zfac n ∧ zfac n ≤ 40320 := by decide +kernel
/-- the static table of factorials -/
def zZs (E : zE) (U : State) : Prop := ∃ t, va_Z "BalanceRoom" "FACTORIALS" "[I" (.ref t) (zA E) U U.heap ∧ va_T .int t 9 (fun j => .int (nI (zfac j))) (zA E) U U.heap
theorem zZs.warm {E : zE} {s U : State} {locs : List Loc} (h : zZs E s) (hW : s.WarmedH U.vm) (hS : va_S (zA E) s.heap U.heap locs) : zZs E U := by
  obtain ⟨t, h1, h2⟩ := h
  exact ⟨t, (h1.moved hW.alike).kept hS.2.1, (h2.moved hW.alike).kept hS.2.1⟩
def zKs (E : zE) (y : MethodName) (cd : Cond) (rm : Room) (av : List Value) (M : zM) (P : Option Value → zM → Prop) : Prop :=
  Met E.1 y (cd :: zU) rm (va_Pc av (fun U => (va_P E.2.1 vwCl (zwd E M) U.heap ∧ zG E U) ∧ zZs E U)) (zQ E P) 0 0 (zA E)
theorem zBlindS (E : zE) (M : zM) (av : List Value) : FrameBlind (va_Pc av (fun U => (va_P E.2.1 vwCl (zwd E M) U.heap ∧ zG E U) ∧ zZs E U)) := fun a U g mk q => by
  obtain ⟨q0, ⟨qP, qK, qN⟩, t, q1, q2⟩ := q
  exact ⟨q0, ⟨qP, va_K.moved (u := U) (U := U.calling g mk a) (Vm.Alike.refl U.vm) qK, va_Nw.same (u := U) (U := U.calling g mk a) rfl rfl qN⟩, t, q1.moved (u := U) (U := U.calling g mk a) (Vm.Alike.refl U.vm), q2.moved (u := U) (U := U.calling g mk a) (Vm.Alike.refl U.vm)⟩
section ZS
variable {E : zE} {x : zX} {cc : ByteArray} {own : String} {nL : Nat} {R : Room} {pc : Nat} {lv : List (Nat × Value)} {st : List Value} {M : zM}
theorem z_gets (hx : zOk E x cc own nL R) {C n ds : String} {t index : Nat} (hZ : va_Z C n ds (.ref t) (zA E) x.2.2.2.1 x.2.2.2.1.heap) (hl : Cond.fieldLink own index C n ds ∈ zU) (d : decode cc pc = .ok (.getstatic index, 3)) (kk : zJ E x (pc + 3) lv (.ref t :: st) M) : zJ E x pc lv st M := fun H locs ls hl2 hP hS => va_gets hx.1 hx.2.1 hZ hS hx.2.2.2.1 (hx.2.2.2.2.1 _ hl) (fun _ h => h) d (kk H locs ls hl2 hP hS)
theorem z_tald (hx : zOk E x cc own nL R) {t k : Nat} (hT : va_T .int t 9 (fun j => .int (nI (zfac j))) (zA E) x.2.2.2.1 x.2.2.2.1.heap) (hk : k < 9) (d : decode cc pc = .ok (.iaload, 1)) (kk : zJ E x (pc + 1) lv (.int (nI (zfac k)) :: st) M) : zJ E x pc lv (.int (nI k) :: .ref t :: st) M := fun H locs ls hl2 hP hS => va_ti hx.1 hx.2.1 hT hS (i := nI k) (v := .int (nI (zfac k))) (vp_in_nI hk (by decide)) (by rw [nI_clamp (by omega)]) d (kk H locs ls hl2 hP hS)
theorem z_callVs (hx : zOk E x cc own nL R) (hz : zZs E x.2.2.2.1) {y : MethodName} {bytes : ByteArray} {maxL index n c ci : Nat} {q : vw_C} {ret : Option FieldType} {rm : Room} {As stk : List Value} {P : Option Value → zM → Prop} (hM : zKs E y (.code y bytes maxL ret) rm (.ref (E.2.2.2 c) :: As) M P)
    (w1 : Cond.methodLink own index y ∈ zU) (hy : zYV y bytes maxL ret n) (hrm : rm.cells = 0 ∧ rm.slots = 0) (hR : rm.frames + 1 ≤ R.frames ∧ 8 + (maxL + 11) + rm.locals ≤ R.locals)
    (hob : zOB E c ci) (hci : vwCl[ci]? = some q) (hq : q.1 = y.cls) (hn : As.length = n) (hstk : stk = As.reverse ++ .ref (E.2.2.2 c) :: st) (hW : (st.map fun v => v.category).sum ≤ 8) (d : decode cc pc = .ok (.invokevirtual index, 3)) (kk : ∀ (r : Option Value) (M2 : zM), P r M2 → zJ E x (pc + 3) lv (r.toList ++ st) M2) : zJ E x pc lv stk M := fun H locs ls hl2 hP hS => by
  subst hstk
  obtain ⟨w2, w3, w4, w5, hd⟩ := hy
  obtain ⟨hc, hs⟩ := hob
  obtain ⟨fs, hs⟩ := hs (M.1 c) (M.2 c)
  refine z_run (va_runV (bytes := bytes) (maxL := maxL) (ret := ret) (C := y.cls) (As := As) (rest := st) ⟨hx.1, hx.2.1, hx.2.2.1, hx.2.2.2.1, hx.2.2.2.2.1⟩ hM ?_ ⟨zBlindS E M _, ?_, fun U hU hWm => ⟨rfl, ⟨by rw [hU]; exact hP, hx.2.2.2.2.2.1.warm hWm⟩, hz.warm hWm (by rw [hU]; exact hS)⟩⟩ rfl hn (by show ls.size = nL; rw [hl2.1, hx.2.2.1]) rfl (lv_room hW) d ⟨by show 0 ≤ _; exact Nat.zero_le _, by show 0 ≤ _; exact Nat.zero_le _⟩) hl2 hS kk
  · have hR' : rm.frames + 1 ≤ x.2.2.1.frames ∧ 8 + (maxL + 11) + rm.locals ≤ x.2.2.1.locals := by rw [hx.2.2.2.2.2.2.2]; exact hR
    exact ⟨callB_of n hx.2.2.2.2.1 (zU_cons w5) rfl hrm.1 hrm.2 (hx.2.2.2.2.1 _ w4) (hx.2.2.2.2.1 _ w1) ⟨hd.1.1, hd.1.2, hd.2⟩ hR', hx.2.2.2.2.1 _ w2, hx.2.2.2.2.1 _ w3⟩
  · rw [← hq]
    exact va_recv hx.2.2.2.2.2.1.1 hP hci ((zwd_get E M hc).trans (by rw [hs]))
end ZS
theorem zK_ofs {E : zE} (hI : zI E) {y : MethodName} {cc : ByteArray} {nL : Nat} {ret : Option FieldType} {rm : Room} {av : List Value} {M : zM} {P : Option Value → zM → Prop} (hy : plainName y.cls = true) (hlen : (lg_sl av).length ≤ nL)
    (body : ∀ x : zX, zOk E x cc y.cls nL rm → zZs E x.2.2.2.1 → (∀ (pc : Nat) (lv : List (Nat × Value)) (v : Int32) (M2 : zM), ret = some .int → P (some (.int v)) M2 → decode cc pc = .ok (.ireturn, 1) → zJ E x pc lv [.int v] M2) → zJ E x 0 (lv_args 0 av) [] M) : zKs E y (.code y cc nL ret) rm av M P := by
  refine Met.ofW (cc := cc) (maxL := nL) (ret := ret) hy rfl ?_
  intro p e s m args below meth c s₁ B hml hv
  obtain ⟨rfl, ⟨hP, hG⟩, hZ⟩ := hv
  have hts := atoms_spec (ws := Cond.code y cc nL ret :: zU) B.pre
  have hlocks := B.notSynchronized
  have hr := B.returns
  have hl := lv_entry av (n := nL) hlen
  rw [lg_entry_eq]
  have key := body (p, e, rm, s, m, av.toArray, below, meth, c, MQ below (zQ E P) av.toArray s 0 0 (zA E)) ⟨B.exec, B.bytes, hml, findClass_of_methodNamed B.named, fun w hw => hts w (List.mem_cons_of_mem _ hw), hG, hI, rfl⟩ hZ
    (fun pc lv v M2 h1 h2 d H locs ls _ hP hS => W.iret (Qc := zQ E P) (free := zA E) (p := p) (l := E.1) (e := e) (R := rm) (s := s) (m := m) (args := av.toArray) (below := below) (meth := meth) (c := c) (cells := 0) (slots := 0) B.exec B.bytes (hr.trans h1) (fun t ht hW => ⟨⟨_, M2, rfl, h2, by rw [ht]; exact hP⟩, hS.F ht⟩) hS.2.2 d)
  exact key s.heap [] _ (by show lv_has _ c.maxLocals _; rw [hml]; exact hl) hP va_S.rf
theorem zsp_all : ∀ n, n < 9 → ∀ j, j < n → ∀ k, k < 2 ^ n → k &&& 2 ^ j = 0 → zpop k + 1 ≤ n ∧ k ||| 2 ^ j < 2 ^ n := by decide +kernel
/-- over the first k sets: the orders in which this weighing brings something new -/
def zshr (r : zRo) (d : Bool) (j : Nat) : Nat → Nat
  | 0 => 0
  | k + 1 => zshr r d j k + (if k &&& 2 ^ j = 0 ∧ zrk r d k < zrk r d (k ||| 2 ^ j) then zfac (zpop k) * zfac (r.2.1 - 1 - zpop k) else 0)
theorem zshr_le {r : zRo} {d : Bool} {j : Nat} (hj : j < r.2.1) (hn : r.2.1 ≤ 8) : ∀ k, k ≤ 2 ^ r.2.1 → zshr r d j k ≤ k * 1625702400
  | 0, _ => Nat.zero_le _
  | k + 1, hk => by
    have h1 := zshr_le (d := d) hj hn k (by omega)
    show zshr r d j k + (if _ then zfac (zpop k) * zfac (r.2.1 - 1 - zpop k) else 0) ≤ (k + 1) * 1625702400
    split
    case isTrue q =>
      have h2 := zsp_all r.2.1 (by omega) j hj k (by omega) q.1
      have h3 := (zfac_le (zpop k) (by omega)).2
      have h4 := (zfac_le (r.2.1 - 1 - zpop k) (by omega)).2
      calc zshr r d j k + zfac (zpop k) * zfac (r.2.1 - 1 - zpop k) ≤ k * 1625702400 + 40320 * 40320 := Nat.add_le_add h1 (Nat.mul_le_mul h3 h4)
        _ = (k + 1) * 1625702400 := by rw [Nat.add_mul, Nat.one_mul]
    case isFalse q =>
      calc zshr r d j k + 0 ≤ k * 1625702400 + 0 := Nat.add_le_add h1 (Nat.le_refl _)
        _ ≤ (k + 1) * 1625702400 := by rw [Nat.add_mul, Nat.one_mul]; omega
def zop_share (r : zRo) (t : Int32) (d up : Bool) : Int32 := if t < 0 ∨ nI r.2.1 ≤ t then -1 else (Int64.ofInt (zTold (zshr r d t.toNatClampNeg (2 ^ r.2.1) : Nat) (zfac r.2.1) up)).toInt32
set_option maxHeartbeats 4000000 in
set_option maxRecDepth 100000 in
theorem k_X5_share {E : zE} (hI : zI E) (M : zM) {σ : zSt} (hσ : zCs M σ) (t : Int32) (d up : Bool) : zKs E yX5_share (.code yX5_share cX5_share 10 (some .int)) (zrm 4 98) [.ref (E.2.2.2 0), .int t, .int (zdr d), .int (zdr up)] M (zpi (fun v M2 => v = zop_share σ.2.2.1 t d up ∧ zCs M2 σ ∧ zfC M M2)) := by
  refine zK_ofs hI (by decide) (Nat.le_of_ble_eq_true rfl) (fun x hx hz ri => ?_)
  show zJ E x 0 [(0, .ref (E.2.2.2 0)), (1, .int t), (2, .int (zdr d)), (3, .int (zdr up))] [] M
  obtain ⟨tb, hZt, hTt⟩ := hz
  obtain ⟨tx, len, ⟨w, n, mm, cd, rd⟩, as, s, sl, sd⟩ := σ
  have hσ2 := hσ
  obtain ⟨hT, hH, hA, hS, hD, hO⟩ := hσ
  have hR : zRm M 46 w n mm cd rd := hH
  have hTx : zTx M tx len := hT
  have hn8 := hR.2.2.2.2.2.1
  have hw4 := hR.2.1
  have hlen := hTx.2.1
  have hsd : M.2 0 8 = sd := hD
  obtain ⟨o, ho14, ho, hs, hs14, has⟩ := id hA
  have hs : M.1 4 2 = nI s := hs
  have hs14 : s ≤ 14 := hs14
  have hp := zp2 hn8
  have hu := zunk_le hw4.2 d
  refine z_aload_n hx 0 dX5_share_0 rfl rfl ?_
  refine zg_X5_1 hx zw_175 dX5_share_1 ?_
  refine z_iload_n hx 1 dX5_share_4 rfl rfl ?_
  refine z_callV hx (As := [.int t]) (st := []) (k_X3_has hI M zRoom_46 hR.2.2.2.2.1 hn8 t) zw_280 zy_X3_has ⟨rfl, rfl⟩ (by decide) (zOB_room zRoom_46 E) rfl rfl rfl rfl (Nat.le_of_ble_eq_true rfl) dX5_share_5 ?_
  rintro _ M5 ⟨v5, rfl, q5⟩
  obtain ⟨q5, hmm⟩ := q5
  rw [hmm]
  rcases q5 with ⟨j, hj, rfl, rfl⟩ | ⟨q5, rfl⟩
  · skip
    show zJ E x 8 _ [.int (nI 1)] _
    refine z_if_ne_n (tgt := 13) hx (by decide) dX5_share_8 (by decide) (fun _ => ?_) (fun h => absurd h (by decide))
    refine z_aload_n hx 0 dX5_share_13 rfl rfl ?_
    refine zg_X5_7 hx zw_181 dX5_share_14 ?_
    refine z_aload_n hx 0 dX5_share_17 rfl rfl ?_
    refine zg_X5_1 hx zw_175 dX5_share_18 ?_
    refine z_iload_n hx 2 dX5_share_21 rfl rfl ?_
    refine z_callV hx (As := [.ref (E.2.2.2 46), .int (zdr d)]) (st := []) (k_X2_ofEach hI M zRoom_46 hR d) zw_526 zy_X2_ofEach ⟨rfl, rfl⟩ (by decide) (zOB_X2 E) rfl rfl rfl rfl (Nat.le_of_ble_eq_true rfl) dX5_share_22 ?_
    rintro _ M22 ⟨rfl, q22⟩
    show zJ E x 25 _ [] _
    have hok : ∀ k, k < 2 ^ n → zrk (w, n, mm, cd, rd) d k ≤ zunk w d := fun k hk => (zbs_ok (cols := zunk w d) (vs := fun t => zLn w mm d (cd t) (rd t) t) hn8 (fun t ht => zLn_ab (t := t) (hR.2.2.2.2.2.2 t ht).2.2.1 (by omega)) k k (Nat.le_refl _) hk).1
    have hpj : 2 ^ j < 2 ^ n := Nat.pow_lt_pow_right (by decide) hj
    refine z_aload_n hx 0 dX5_share_25 rfl rfl ?_
    refine zg_X5_1 hx zw_175 dX5_share_26 ?_
    refine zg_X3_2 hx zRoom_46 zw_86 dX5_share_29 ?_
    refine z_eqi (b := nI n) (by rw [(q22.2 46 (by omega)).1]; exact hR.2.2.2.2.1) ?_
    refine z_istore hx (lv2 := [(4, .int (nI n)), (0, .ref (E.2.2.2 0)), (1, .int (nI j)), (2, .int (zdr d)), (3, .int (zdr up))]) dX5_share_32 (by decide) rfl ?_
    refine z_iconst hx (v := nI 1) dX5_share_34 (by decide +kernel) ?_
    refine z_iload_n hx 2 dX5_share_35 rfl rfl ?_
    refine z_ishl hx dX5_share_36 ?_
    refine z_eqi (b := nI (2 ^ j)) (zshl1 (by omega)) ?_
    refine z_istore hx (lv2 := [(5, .int (nI (2 ^ j))), (4, .int (nI n)), (0, .ref (E.2.2.2 0)), (1, .int (nI j)), (2, .int (zdr d)), (3, .int (zdr up))]) dX5_share_37 (by decide) rfl ?_
    refine z_lconst hx (v := 0) dX5_share_39 rfl ?_
    refine z_lstore hx (lv2 := [(6, .long 0), (5, .int (nI (2 ^ j))), (4, .int (nI n)), (0, .ref (E.2.2.2 0)), (1, .int (nI j)), (2, .int (zdr d)), (3, .int (zdr up))]) dX5_share_40 (by decide) rfl ?_
    refine z_iconst hx (v := nI 0) dX5_share_42 (by decide +kernel) ?_
    refine z_istore hx (lv2 := [(8, .int (nI 0)), (6, .long 0), (5, .int (nI (2 ^ j))), (4, .int (nI n)), (0, .ref (E.2.2.2 0)), (1, .int (nI j)), (2, .int (zdr d)), (3, .int (zdr up))]) dX5_share_43 (by decide) rfl ?_
    have loop45 : ∀ (fuel45 : Nat) (k : Nat) (_ : k ≤ 2 ^ n), 2 ^ n - k < fuel45 → zJ E x 45 [(8, .int (nI k)), (6, .long (lN (zshr (w, n, mm, cd, rd) d j k))), (5, .int (nI (2 ^ j))), (4, .int (nI n)), (0, .ref (E.2.2.2 0)), (1, .int (nI j)), (2, .int (zdr d)), (3, .int (zdr up))] [] M22 := by
      intro fuel45
      induction fuel45 with
      | zero =>
        intros; omega
      | succ fuel45 ih45 =>
        intro k hk hfuel45
        refine z_iload hx 0 dX5_share_45 rfl ?_
        refine z_iconst hx (v := nI 1) dX5_share_47 (by decide +kernel) ?_
        refine z_iload hx 3 dX5_share_48 rfl ?_
        refine z_ishl hx dX5_share_50 ?_
        refine z_eqi (b := nI (2 ^ n)) (zshl1 hn8) ?_
        refine z_icmp_ge_n (tgt := 126) hx (by omega) (by omega) dX5_share_51 (by decide) (fun h51 => ?_) (fun h51 => ?_)
        · skip
          have hlo := zshr_le (r := (w, n, mm, cd, rd)) (d := d) hj hn8 k hk
          have hfn := zfac_le n (by omega)
          refine z_lload hx 1 dX5_share_126 rfl ?_
          refine z_gets hx hZt zw_537 dX5_share_128 ?_
          refine z_iload hx 3 dX5_share_131 rfl ?_
          refine z_tald hx hTt (k := n) (by omega) dX5_share_133 ?_
          refine z_i2l hx dX5_share_134 ?_
          refine z_eql (b := lN (zfac n)) (nI_l (by omega)) ?_
          refine z_stl (Int64.ofInt ((zshr (w, n, mm, cd, rd) d j k : Nat) : Int)) (zlN_ofInt _) ?_
          refine z_iload_n hx 7 dX5_share_135 rfl rfl ?_
          refine z_callS hx (As := [.long (Int64.ofInt ((zshr (w, n, mm, cd, rd) d j k : Nat) : Int)), .long (lN (zfac n)), .int (zdr up)]) (st := []) (k_X5_told hI M22 (zshr (w, n, mm, cd, rd) d j k : Nat) (zfac n) up ⟨by omega, by omega⟩ (by omega) (by omega)) zw_413 zy_X5_told ⟨rfl, rfl⟩ (by decide) rfl rfl (Nat.le_of_ble_eq_true rfl) dX5_share_136 ?_
          rintro _ M136 ⟨v136, rfl, q136⟩
          obtain ⟨rfl, q136⟩ := q136
          rw [q136]
          show zJ E x 139 _ [.long (Int64.ofInt (zTold (zshr (w, n, mm, cd, rd) d j k : Nat) (zfac n) up))] _
          refine z_l2i hx dX5_share_139 ?_
          exact ri _ _ _ _ rfl ⟨_, rfl, (by
              rw [zop_share, if_neg (zin_n hj hn8), nI_clamp (by omega)]
              have ek : k = 2 ^ n := by omega
              rw [ek]
              exact ⟨rfl, zCs_scr hσ2 (zfr_w q22.2 (fun c h => by omega))⟩)⟩ dX5_share_140
        · skip
          have hal : k &&& 2 ^ j ≤ k := Nat.and_le_left
          refine z_iload hx 0 dX5_share_54 rfl ?_
          refine z_iload hx 2 dX5_share_56 rfl ?_
          refine z_iand hx dX5_share_58 ?_
          refine z_eqi (b := nI (k &&& 2 ^ j)) (znI_and _ _) ?_
          refine z_if_ne_n (tgt := 120) hx (by omega) dX5_share_59 (by decide) (fun h59 => ?_) (fun h59 => ?_)
          · skip
            refine z_iinc hx (w := nI (k + 1)) (lv2 := [(8, .int (nI (k + 1))), (6, .long (lN (zshr (w, n, mm, cd, rd) d j k))), (5, .int (nI (2 ^ j))), (4, .int (nI n)), (0, .ref (E.2.2.2 0)), (1, .int (nI j)), (2, .int (zdr d)), (3, .int (zdr up))]) 0 dX5_share_120 rfl (z_inc _) (by decide) rfl ?_
            refine z_goto (tgt := 45) hx dX5_share_123 (by decide) ?_
            exact z_to (ih45 (k + 1) (by omega) (by omega)) [0, 1, 2, 3, 4, 5, 6, 7] (by rw [show zshr (w, n, mm, cd, rd) d j (k + 1) = zshr (w, n, mm, cd, rd) d j k from congrArg (zshr (w, n, mm, cd, rd) d j k + ·) (if_neg (fun z => h59 z.1))]; rfl) rfl
          · skip
            have hor := zsp_all n (by omega) j hj k (by omega) h59
            have hrk : zrk (w, n, mm, cd, rd) d k ≤ zunk w d := hok k (by omega)
            have hrk2 : zrk (w, n, mm, cd, rd) d (k ||| 2 ^ j) ≤ zunk w d := hok _ hor.2
            refine z_aload_n hx 4 dX5_share_62 rfl rfl ?_
            refine zg_X5_7 hx zw_181 dX5_share_63 ?_
            refine zg_X2_2 hx zw_166 dX5_share_66 ?_
            refine z_iload hx 0 dX5_share_69 rfl ?_
            refine z_iload hx 2 dX5_share_71 rfl ?_
            refine z_ior hx dX5_share_73 ?_
            refine z_eqi (b := nI (k ||| 2 ^ j)) (znI_or _ _) ?_
            refine z_iald_n hx (zIA_14 E) (by omega) dX5_share_74 ?_
            refine z_eqi (b := nI (zrk (w, n, mm, cd, rd) d (k ||| 2 ^ j))) (q22.1 (k ||| 2 ^ j) hor.2) ?_
            refine z_aload_n hx 4 dX5_share_75 rfl rfl ?_
            refine zg_X5_7 hx zw_181 dX5_share_76 ?_
            refine zg_X2_2 hx zw_166 dX5_share_79 ?_
            refine z_iload hx 0 dX5_share_82 rfl ?_
            refine z_iald_n hx (zIA_14 E) (by omega) dX5_share_84 ?_
            refine z_eqi (b := nI (zrk (w, n, mm, cd, rd) d k)) (q22.1 k (by omega)) ?_
            refine z_icmp_le_n (tgt := 120) hx (by omega) (by omega) dX5_share_85 (by decide) (fun h85 => ?_) (fun h85 => ?_)
            · skip
              refine z_iinc hx (w := nI (k + 1)) (lv2 := [(8, .int (nI (k + 1))), (6, .long (lN (zshr (w, n, mm, cd, rd) d j k))), (5, .int (nI (2 ^ j))), (4, .int (nI n)), (0, .ref (E.2.2.2 0)), (1, .int (nI j)), (2, .int (zdr d)), (3, .int (zdr up))]) 0 dX5_share_120 rfl (z_inc _) (by decide) rfl ?_
              refine z_goto (tgt := 45) hx dX5_share_123 (by decide) ?_
              exact z_to (ih45 (k + 1) (by omega) (by omega)) [0, 1, 2, 3, 4, 5, 6, 7] (by rw [show zshr (w, n, mm, cd, rd) d j (k + 1) = zshr (w, n, mm, cd, rd) d j k from congrArg (zshr (w, n, mm, cd, rd) d j k + ·) (if_neg (fun z => absurd z.2 (Nat.not_lt.mpr h85)))]; rfl) rfl
            · skip
              refine z_iload hx 0 dX5_share_88 rfl ?_
              refine z_callS hx (As := [.int (nI k)]) (st := []) (k_J6_bitCount_0f7a4 hI M22 k (by omega)) zw_536 zy_J6_bitCount_0f7a4 ⟨rfl, rfl⟩ (by decide) rfl rfl (Nat.le_of_ble_eq_true rfl) dX5_share_90 ?_
              rintro _ M90 ⟨v90, rfl, q90⟩
              obtain ⟨rfl, q90⟩ := q90
              rw [q90]
              show zJ E x 93 _ [.int (nI (zpop k))] _
              refine z_istore hx (lv2 := [(9, .int (nI (zpop k))), (8, .int (nI k)), (6, .long (lN (zshr (w, n, mm, cd, rd) d j k))), (5, .int (nI (2 ^ j))), (4, .int (nI n)), (0, .ref (E.2.2.2 0)), (1, .int (nI j)), (2, .int (zdr d)), (3, .int (zdr up))]) dX5_share_93 (by decide) rfl ?_
              refine z_lload hx 2 dX5_share_95 rfl ?_
              refine z_gets hx hZt zw_537 dX5_share_97 ?_
              refine z_iload hx 0 dX5_share_100 rfl ?_
              refine z_tald hx hTt (k := zpop k) (by omega) dX5_share_102 ?_
              refine z_i2l hx dX5_share_103 ?_
              refine z_gets hx hZt zw_537 dX5_share_104 ?_
              refine z_iload hx 4 dX5_share_107 rfl ?_
              refine z_iconst hx (v := nI 1) dX5_share_109 (by decide +kernel) ?_
              refine z_isub_n hx (by omega) dX5_share_110 ?_
              refine z_iload hx 0 dX5_share_111 rfl ?_
              refine z_isub_n hx (by omega) dX5_share_113 ?_
              refine z_tald hx hTt (k := (n - 1) - (zpop k)) (by omega) dX5_share_114 ?_
              refine z_i2l hx dX5_share_115 ?_
              refine z_lmul hx dX5_share_116 ?_
              refine z_ladd hx dX5_share_117 ?_
              refine z_lstore hx (lv2 := [(6, .long ((lN (zshr (w, n, mm, cd, rd) d j k)) + (((nI (zfac (zpop k))).toInt64) * ((nI (zfac ((n - 1) - (zpop k)))).toInt64)))), (9, .int (nI (zpop k))), (8, .int (nI k)), (5, .int (nI (2 ^ j))), (4, .int (nI n)), (0, .ref (E.2.2.2 0)), (1, .int (nI j)), (2, .int (zdr d)), (3, .int (zdr up))]) dX5_share_118 (by decide) rfl ?_
              refine z_iinc hx (w := nI (k + 1)) (lv2 := [(8, .int (nI (k + 1))), (6, .long ((lN (zshr (w, n, mm, cd, rd) d j k)) + (((nI (zfac (zpop k))).toInt64) * ((nI (zfac ((n - 1) - (zpop k)))).toInt64)))), (9, .int (nI (zpop k))), (5, .int (nI (2 ^ j))), (4, .int (nI n)), (0, .ref (E.2.2.2 0)), (1, .int (nI j)), (2, .int (zdr d)), (3, .int (zdr up))]) 2 dX5_share_120 rfl (z_inc _) (by decide) rfl ?_
              refine z_goto (tgt := 45) hx dX5_share_123 (by decide) ?_
              exact z_to (ih45 (k + 1) (by omega) (by omega)) [0, 1, 3, 4, 5, 6, 7, 8] (by rw [show zshr (w, n, mm, cd, rd) d j (k + 1) = zshr (w, n, mm, cd, rd) d j k + zfac (zpop k) * zfac (n - 1 - zpop k) from congrArg (zshr (w, n, mm, cd, rd) d j k + ·) (if_pos ⟨h59, h85⟩), nI_l (by have := zfac_le (zpop k) (by omega); omega), nI_l (by have := zfac_le (n - 1 - zpop k) (by omega); omega), lN_mul, lN_add]; rfl) rfl
    exact z_to (loop45 _ 0 (Nat.zero_le _) (Nat.lt_succ_self _)) [0, 1, 2, 3, 4, 5, 6, 7] (by rw [show (0 : Int64) = lN 0 by decide +kernel]; rfl) rfl
  · skip
    show zJ E x 8 _ [.int (nI 0)] _
    refine z_if_ne_n (tgt := 13) hx (by decide) dX5_share_8 (by decide) (fun h => absurd h (by decide)) (fun _ => ?_)
    refine z_iconst hx (v := (-1)) dX5_share_11 rfl ?_
    exact ri _ _ _ _ rfl ⟨_, rfl, ⟨by rw [zop_share, if_pos q5], hσ2, zfr_rf _ _⟩⟩ dX5_share_12
