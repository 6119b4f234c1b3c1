/-! THE CLAIM OUT OF ONE WALK OF THE LAW'S BODY. Your part is whole_start (and what it stands on); all else here is the same for every law, but numbers. -/
def R_law : String := "BalanceRoomLaw"
def lw_P (b : Addr) (xs : List Int32) (args : Array Value) (s : State) : Prop := args = #[.ref b] ∧ s.IntsAt b xs ∧ xs.length ≤ 2048 ∧ (Jvm.Cond.and given_1 narrow_1).before args s = true
def lw_Q (_ : Array Value) (s : State) (o : Outcome) (t : State) : Prop := o = .returned (some (.int 1)) ∧ Framed s o t [] 600000 7302250
def lw_Z (below : List Frame) (a : Array Value) (s : State) : State → Prop := fun t => ∃ o, t.status = .running ∧ Ended t below o ∧ lw_Q a s o t
/-- the law's own end, with 1 on the stack, nothing written that was there before, its room as the claim has it -/
theorem lw_ret {p : Program} {l : Launch} {e : Env} {s : State} {m : MethodId} {below : List Frame} {meth : Method} {c : Code} {b : Nat} (hx : p.tables.exec = Jvm.exec) (hb : c.code = code) (hr : meth.sig.returnType = ret) (hlocks : meth.locks = false) {pc : Nat} {H : Heap} {ls : Array Slot} (hdg : decode code pc = .ok (.ireturn, 1)) : W p l e room_1 s m #[Value.ref b] below meth c H [] 600000 7302250 (lw_Z below #[Value.ref b] s) (F0 m pc ls [.int 1]) := by
  intro T hT X
  obtain ⟨fs, hret, hrun, hended, hW, hframe⟩ := X.leave (v := some (.int 1)) (hlocks := hlocks) (fun h => by rw [hr] at h; cases h)
  have hmeth' : T.vm.method? m = some meth := X.method'
  refine ⟨T.setFrames fs, ?_, .returned (some (.int 1)), hrun, hended, rfl, ⟨_, rfl⟩, hW, hframe⟩
  jvm_step X.here [X.here.top, hx, hb, hdg, hmeth', hr, ret, narrow_b1]
  (try refine ⟨rfl, ?_⟩); (try refine ⟨rfl, ?_⟩)
  first | (intro acts; rw [hret _ acts rfl rfl rfl]) | rw [hret _ _ rfl rfl rfl]
  exact Steps.refl _
/-- what holds at the law's entry: the machine, the code, the tables' words (any of lw_tbl by 'hts w (by decide +kernel)'), the script of L ints xs at the cell b, what the Statement gives of the start (any of its parts by flat_of_before) -/
def lw_At (p : Program) (s : State) (m : MethodId) (meth : Method) (c : Code) (b L : Nat) (xs : Nat → Int32) : Prop :=
  p.tables.exec = Jvm.exec ∧ c.code = code ∧ meth.sig.returnType = ret ∧ c.maxLocals = 4 ∧ s.vm.findClass R_law = some m.cls ∧ (∀ w ∈ lw_tbl, w.before #[Value.ref b] s = true) ∧ va_X b L xs s s.heap ∧ b < s.heap.size ∧ meth.locks = false ∧ (Jvm.Cond.and given_1 narrow_1).before #[Value.ref b] s = true

theorem zLm4 : ∀ n, n < 2049 → (nI n - nI 4).toInt = (n : Int) - 4 := by decide +kernel
theorem zl_eqi {E : zE} {s0 : Nat} {x : zX} {pc : Nat} {lv : List (Nat × Value)} {st : List Value} {M : zM} {a b : Int32} (h : a = b) (k : zL E s0 x pc lv (.int b :: st) M) : zL E s0 x pc lv (.int a :: st) M := h ▸ k
set_option maxHeartbeats 4000000 in
set_option maxRecDepth 100000 in
/-- the law's loop: class and reference hold one state -/
theorem zloop {E : zE} {s0 : Nat} {x : zX} {b L : Nat} {xs : Nat → Int32} (hI : zI E) (hw : zLw E s0 x b L xs) (hend : ∀ (i : Nat) (M : zM), zL E s0 x 1328 (zlv E b i) [] M) : ∀ (fuel i : Nat) (M : zM) (σ : zSt), i ≤ L → L - i < fuel → zCs M σ → zMs M σ → z99 σ → zL E s0 x 18 (zlv E b i) [] M := by
  intro fuel
  induction fuel with
  | zero => intro i M σ h1 h2; omega
  | succ fuel ih =>
    intro i M σ hiL hfu hc hm h9
    obtain ⟨hx, hX, hbl, hs0, hL, hA, hZ⟩ := id hw
    refine zl_iload_n hx 0 dL_law_18 rfl rfl ?_
    refine zl_aload_n hx 3 dL_law_19 rfl rfl ?_
    refine zl_slen hx hX hbl hs0 dL_law_20 ?_
    refine zl_iconst hx (v := nI 4) dL_law_21 (by decide +kernel) ?_
    refine zl_isub hx dL_law_22 ?_
    refine zl_icmp_gt (tgt := 1328) hx dL_law_23 (by decide) (fun h23 => hend i M) (fun h23 => ?_)
    have hi4 : i + 4 ≤ L := by
      have h1 := zLm4 L (by omega)
      have h2 := Int32.not_lt.mp h23
      rw [Int32.le_iff_toInt_le, h1, nI_toInt (by omega)] at h2
      omega
    have nxt : ∀ (M2 : zM) (σ2 : zSt), zCs M2 σ2 → zMs M2 σ2 → z99 σ2 → zL E s0 x 1322 (zlv E b i) [] M2 := fun M2 σ2 a1 a2 a3 => by
      refine zl_iinc hx (w := nI (i + 4)) (lv2 := zlv E b (i + 4)) 0 dL_law_1322 rfl (nI_add _ _) (by decide) rfl ?_
      refine zl_goto (tgt := 18) hx dL_law_1325 (by decide) ?_
      exact ih (i + 4) M2 σ2 hi4 (by omega) a1 a2 a3
    refine zl_aload_n hx 3 dL_law_26 rfl rfl ?_
    refine zl_iload_n hx 0 dL_law_27 rfl rfl ?_
    refine zl_sld hx hX hbl hs0 hL (k := i) (by omega) dL_law_28 ?_
    refine zl_bipush hx (v := nI 31) dL_law_29 (by decide +kernel) ?_
    refine zl_iand hx dL_law_31 ?_
    obtain ⟨j, hj, ej⟩ := pk_andE (xs i) (m := nI 31) 5 (by decide +kernel)
    refine zl_eqi ej ?_
    have hj2 : j < 32 := hj
    by_cases h30 : 30 ≤ j
    · exact zl_tableOut (tgt := 1322) hx dL_law_32 (by rw [nI_toInt (by omega)]; omega) (by decide) (nxt M σ hc hm h9)
    · rcases (show j = 0 ∨ j = 1 ∨ j = 2 ∨ j = 3 ∨ j = 4 ∨ j = 5 ∨ j = 6 ∨ j = 7 ∨ j = 8 ∨ j = 9 ∨ j = 10 ∨ j = 11 ∨ j = 12 ∨ j = 13 ∨ j = 14 ∨ j = 15 ∨ j = 16 ∨ j = 17 ∨ j = 18 ∨ j = 19 ∨ j = 20 ∨ j = 21 ∨ j = 22 ∨ j = 23 ∨ j = 24 ∨ j = 25 ∨ j = 26 ∨ j = 27 ∨ j = 28 ∨ j = 29 by omega) with rfl | rfl | rfl | rfl | rfl | rfl | rfl | rfl | rfl | rfl | rfl | rfl | rfl | rfl | rfl | rfl | rfl | rfl | rfl | rfl | rfl | rfl | rfl | rfl | rfl | rfl | rfl | rfl | rfl | rfl
      · exact zl_tableIn (off := 136) (tgt := 168) hx dL_law_32 (by decide +kernel) (by decide +kernel) (by decide +kernel) (by decide) (zcase_0 hI hw hc hm h9 hi4 nxt)
      · exact zl_tableIn (off := 159) (tgt := 191) hx dL_law_32 (by decide +kernel) (by decide +kernel) (by decide +kernel) (by decide) (zcase_1 hI hw hc hm h9 hi4 nxt)
      · exact zl_tableIn (off := 172) (tgt := 204) hx dL_law_32 (by decide +kernel) (by decide +kernel) (by decide +kernel) (by decide) (zcase_2 hI hw hc hm h9 hi4 nxt)
      · exact zl_tableIn (off := 185) (tgt := 217) hx dL_law_32 (by decide +kernel) (by decide +kernel) (by decide +kernel) (by decide) (zcase_3 hI hw hc hm h9 hi4 nxt)
      · exact zl_tableIn (off := 198) (tgt := 230) hx dL_law_32 (by decide +kernel) (by decide +kernel) (by decide +kernel) (by decide) (zcase_4 hI hw hc hm h9 hi4 nxt)
      · exact zl_tableIn (off := 221) (tgt := 253) hx dL_law_32 (by decide +kernel) (by decide +kernel) (by decide +kernel) (by decide) (zcase_5 hI hw hc hm h9 hi4 nxt)
      · exact zl_tableIn (off := 244) (tgt := 276) hx dL_law_32 (by decide +kernel) (by decide +kernel) (by decide +kernel) (by decide) (zcase_6 hI hw hc hm h9 hi4 nxt)
      · exact zl_tableIn (off := 277) (tgt := 309) hx dL_law_32 (by decide +kernel) (by decide +kernel) (by decide +kernel) (by decide) (zcase_7 hI hw hc hm h9 hi4 nxt)
      · exact zl_tableIn (off := 300) (tgt := 332) hx dL_law_32 (by decide +kernel) (by decide +kernel) (by decide +kernel) (by decide) (zcase_8 hI hw hc hm h9 hi4 nxt)
      · exact zl_tableIn (off := 333) (tgt := 365) hx dL_law_32 (by decide +kernel) (by decide +kernel) (by decide +kernel) (by decide) (zcase_9 hI hw hc hm h9 hi4 nxt)
      · exact zl_tableIn (off := 366) (tgt := 398) hx dL_law_32 (by decide +kernel) (by decide +kernel) (by decide +kernel) (by decide) (zcase_10 hI hw hc hm h9 hi4 nxt)
      · exact zl_tableIn (off := 389) (tgt := 421) hx dL_law_32 (by decide +kernel) (by decide +kernel) (by decide +kernel) (by decide) (zcase_11 hI hw hc hm h9 hi4 nxt)
      · exact zl_tableIn (off := 402) (tgt := 434) hx dL_law_32 (by decide +kernel) (by decide +kernel) (by decide +kernel) (by decide) (zcase_12 hI hw hc hm h9 hi4 nxt)
      · exact zl_tableIn (off := 441) (tgt := 473) hx dL_law_32 (by decide +kernel) (by decide +kernel) (by decide +kernel) (by decide) (zcase_13 hI hw hc hm h9 hi4 nxt)
      · exact zl_tableIn (off := 517) (tgt := 549) hx dL_law_32 (by decide +kernel) (by decide +kernel) (by decide +kernel) (by decide) (zcase_14 hI hw hc hm h9 hi4 nxt)
      · exact zl_tableIn (off := 593) (tgt := 625) hx dL_law_32 (by decide +kernel) (by decide +kernel) (by decide +kernel) (by decide) (zcase_15 hI hw hc hm h9 hi4 nxt)
      · exact zl_tableIn (off := 659) (tgt := 691) hx dL_law_32 (by decide +kernel) (by decide +kernel) (by decide +kernel) (by decide) (zcase_16 hI hw hc hm h9 hi4 nxt)
      · exact zl_tableIn (off := 735) (tgt := 767) hx dL_law_32 (by decide +kernel) (by decide +kernel) (by decide +kernel) (by decide) (zcase_17 hI hw hc hm h9 hi4 nxt)
      · exact zl_tableIn (off := 801) (tgt := 833) hx dL_law_32 (by decide +kernel) (by decide +kernel) (by decide +kernel) (by decide) (zcase_18 hI hw hc hm h9 hi4 nxt)
      · exact zl_tableIn (off := 840) (tgt := 872) hx dL_law_32 (by decide +kernel) (by decide +kernel) (by decide +kernel) (by decide) (zcase_19 hI hw hc hm h9 hi4 nxt)
      · exact zl_tableIn (off := 853) (tgt := 885) hx dL_law_32 (by decide +kernel) (by decide +kernel) (by decide +kernel) (by decide) (zcase_20 hI hw hc hm h9 hi4 nxt)
      · exact zl_tableIn (off := 892) (tgt := 924) hx dL_law_32 (by decide +kernel) (by decide +kernel) (by decide +kernel) (by decide) (zcase_21 hI hw hc hm h9 hi4 nxt)
      · exact zl_tableIn (off := 931) (tgt := 963) hx dL_law_32 (by decide +kernel) (by decide +kernel) (by decide +kernel) (by decide) (zcase_22 hI hw hc hm h9 hi4 nxt)
      · exact zl_tableIn (off := 994) (tgt := 1026) hx dL_law_32 (by decide +kernel) (by decide +kernel) (by decide +kernel) (by decide) (zcase_23 hI hw hc hm h9 hi4 nxt)
      · exact zl_tableIn (off := 1069) (tgt := 1101) hx dL_law_32 (by decide +kernel) (by decide +kernel) (by decide +kernel) (by decide) (zcase_24 hI hw hc hm h9 hi4 nxt)
      · exact zl_tableIn (off := 1144) (tgt := 1176) hx dL_law_32 (by decide +kernel) (by decide +kernel) (by decide +kernel) (by decide) (zcase_25 hI hw hc hm h9 hi4 nxt)
      · exact zl_tableIn (off := 1198) (tgt := 1230) hx dL_law_32 (by decide +kernel) (by decide +kernel) (by decide +kernel) (by decide) (zcase_26 hI hw hc hm h9 hi4 nxt)
      · exact zl_tableIn (off := 1221) (tgt := 1253) hx dL_law_32 (by decide +kernel) (by decide +kernel) (by decide +kernel) (by decide) (zcase_27 hI hw hc hm h9 hi4 nxt)
      · exact zl_tableIn (off := 1244) (tgt := 1276) hx dL_law_32 (by decide +kernel) (by decide +kernel) (by decide +kernel) (by decide) (zcase_28 hI hw hc hm h9 hi4 nxt)
      · exact zl_tableIn (off := 1267) (tgt := 1299) hx dL_law_32 (by decide +kernel) (by decide +kernel) (by decide +kernel) (by decide) (zcase_29 hI hw hc hm h9 hi4 nxt)

set_option maxHeartbeats 4000000 in
set_option maxRecDepth 100000 in
/-- the law, from its entry -/
theorem whole_start {p : Program} {e : Env} {s : State} {m : MethodId} {below : List Frame} {meth : Method} {c : Code} (l : Launch) (hflags : l.flags = flags0) {b L : Nat} {xs : Nat → Int32} (hL : L ≤ 2048) (C0 : lw_At p s m meth c b L xs) : W p l e room_1 s m #[Value.ref b] below meth c s.heap [] 0 0 (lw_Z below #[Value.ref b] s) (entryFrame m ([Value.ref b] : List Value).toArray 4) := by
  obtain ⟨hx, hb, hr, hml, hown, hts, hX, hbl, hlocks, hgv⟩ := id C0
  obtain ⟨c0, d0, hKn0⟩ := u_known (C := RX0) (T := TX0) (N := 3) (n := 3) hts (fun w h => zU_lw (zin_X0 w h)) (hts _ (zU_lw zw_104))
  obtain ⟨c1, d1, hKn1⟩ := u_known (C := RX1) (T := TX1) (N := 7) (n := 7) hts (fun w h => zU_lw (zin_X1 w h)) (hts _ (zU_lw zw_124))
  obtain ⟨c2, d2, hKn2⟩ := u_known (C := RX2) (T := TX2) (N := 3) (n := 3) hts (fun w h => zU_lw (zin_X2 w h)) (hts _ (zU_lw zw_157))
  obtain ⟨c3, d3, hKn3⟩ := u_known (C := RX3) (T := TX3) (N := 5) (n := 5) hts (fun w h => zU_lw (zin_X3 w h)) (hts _ (zU_lw zw_74))
  obtain ⟨c4, d4, hKn4⟩ := u_known (C := RX4) (T := TX4) (N := 2) (n := 2) hts (fun w h => zU_lw (zin_X4 w h)) (hts _ (zU_lw zw_58))
  obtain ⟨c5, d5, hKn5⟩ := u_known (C := RX5) (T := TX5) (N := 9) (n := 9) hts (fun w h => zU_lw (zin_X5 w h)) (hts _ (zU_lw zw_50))
  obtain ⟨c6, d6, hKn6⟩ := u_known (C := RX6) (T := TX6) (N := 24) (n := 24) hts (fun w h => zU_lw (zin_X6 w h)) (hts _ (zU_lw zw_571))
  obtain ⟨D, hKc⟩ : ∃ D : va_G, ∀ (k : Nat) (q : vw_C), vwCl[k]? = some q → u_Kn s q.1 q.2.1 q.2.2 (D.1 k) (D.2 k) := by
    refine ⟨(fun k => match k with | 0 => c0 | 1 => c1 | 2 => c2 | 3 => c3 | 4 => c4 | 5 => c5 | _ => c6, fun k => match k with | 0 => d0 | 1 => d1 | 2 => d2 | 3 => d3 | 4 => d4 | 5 => d5 | _ => d6), ?_⟩
    intro k q hq
    match k, hq with
    | 0, hq => cases hq; exact hKn0
    | 1, hq => cases hq; exact hKn1
    | 2, hq => cases hq; exact hKn2
    | 3, hq => cases hq; exact hKn3
    | 4, hq => cases hq; exact hKn4
    | 5, hq => cases hq; exact hKn5
    | 6, hq => cases hq; exact hKn6
    | k + 7, hq => simp [vwCl] at hq
  obtain ⟨a0, k0, p0, f0, g0, e0⟩ := Cond.arrayClass_spec (hts _ (zU_lw zw_72))
  obtain ⟨a1, k1, p1, f1, g1, e1⟩ := Cond.arrayClass_spec (hts _ (zU_lw zw_155))
  obtain ⟨a2, k2, p2, f2, g2, e2⟩ := Cond.arrayClass_spec (hts _ (zU_lw zw_154))
  obtain ⟨p3, a3, k3, f3, -, g3, e3, n3⟩ := Cond.arrayOver_spec (hts _ zl_110)
  obtain ⟨p4, a4, k4, f4, -, g4, e4, n4⟩ := arrayOverA_spec (hts _ zl_130)
  obtain ⟨cy, hcy⟩ : ∃ cy : Nat → ClassId, cy 0 = a0 ∧ cy 1 = a1 ∧ cy 2 = a2 ∧ cy 3 = a3 ∧ cy 4 = a4 := ⟨fun k => match k with | 0 => a0 | 1 => a1 | 2 => a2 | 3 => a3 | _ => a4, rfl, rfl, rfl, rfl, rfl⟩
  obtain ⟨rfl, rfl, rfl, rfl, rfl⟩ := hcy
  generalize hs0 : s.heap.size = s0
  have hK : va_K D vwCl (ztys (zE0 l D cy s0)) s := by
    refine ⟨hKc, fun k q hk => ?_⟩
    match k, hk with
    | 0, hk => cases hk; exact ⟨fun n z => ⟨fun k h => (by cases h), k0, g0, p0, e0⟩, f0⟩
    | 1, hk => cases hk; exact ⟨fun n z => ⟨fun k h => (by cases h), k1, g1, p1, e1⟩, f1⟩
    | 2, hk => cases hk; exact ⟨fun n z => ⟨fun k h => (by cases h), k2, g2, p2, e2⟩, f2⟩
    | 3, hk => cases hk; exact ⟨fun n z => ⟨fun k h => (by cases h), k3, g3, p3, e3⟩, ⟨k3, p3, g3, e3, f3, n3⟩⟩
    | 4, hk => cases hk; exact ⟨fun n z => ⟨fun k h => (by cases h), k4, g4, p4, e4⟩, n4⟩
    | k + 5, hk => simp [ztys] at hk
  have hG : zG (zE0 l D cy s0) s := ⟨hK, va_Nw.of rfl (hts _ zl_492)⟩
  have hG2 : zG2 (zE0 l D cy s0) s := ⟨hG, va_AO.of (hts _ zl_110), over_moved (Vm.Alike.refl s.vm) (hts _ zl_130), va_Nw.of rfl (hts _ zl_59), va_Nw.of rfl (hts _ zl_75), va_Nw.of rfl (hts _ zl_111), va_Nw.of rfl (hts _ zl_125), va_Nw.of rfl (hts _ zl_158)⟩
  have hwU : ∀ w ∈ zU, w.before #[Value.ref b] s = true := fun w hw => hts w (zU_lw hw)
  have hnA : ∀ a : Nat, a < s.heap.size → ¬ zA (zE0 l D cy s0) a := fun a ha => by
    rintro ⟨c2, -, ec⟩
    have ec2 : a = s0 + zof c2 := ec
    omega
  have hgs := flat_of_before _ hgv
  have hel : ∀ j : Nat, j < 9 → (Term.elem (.static "BalanceRoom" "FACTORIALS" "[I") (.int (Int32.ofNat j))).eval #[Value.ref b] s none [] s = some (.int (nI (zfac j))) := by
    intro j hj
    rcases (show j = 0 ∨ j = 1 ∨ j = 2 ∨ j = 3 ∨ j = 4 ∨ j = 5 ∨ j = 6 ∨ j = 7 ∨ j = 8 by omega) with rfl | rfl | rfl | rfl | rfl | rfl | rfl | rfl | rfl
    · exact va_eqt (hgs (Cond.eq (.elem (.static "BalanceRoom" "FACTORIALS" "[I") (.int 0)) (.int 1)) (by decide +kernel))
    · exact va_eqt (hgs (Cond.eq (.elem (.static "BalanceRoom" "FACTORIALS" "[I") (.int 1)) (.int 1)) (by decide +kernel))
    · exact va_eqt (hgs (Cond.eq (.elem (.static "BalanceRoom" "FACTORIALS" "[I") (.int 2)) (.int 2)) (by decide +kernel))
    · exact va_eqt (hgs (Cond.eq (.elem (.static "BalanceRoom" "FACTORIALS" "[I") (.int 3)) (.int 6)) (by decide +kernel))
    · exact va_eqt (hgs (Cond.eq (.elem (.static "BalanceRoom" "FACTORIALS" "[I") (.int 4)) (.int 24)) (by decide +kernel))
    · exact va_eqt (hgs (Cond.eq (.elem (.static "BalanceRoom" "FACTORIALS" "[I") (.int 5)) (.int 120)) (by decide +kernel))
    · exact va_eqt (hgs (Cond.eq (.elem (.static "BalanceRoom" "FACTORIALS" "[I") (.int 6)) (.int 720)) (by decide +kernel))
    · exact va_eqt (hgs (Cond.eq (.elem (.static "BalanceRoom" "FACTORIALS" "[I") (.int 7)) (.int 5040)) (by decide +kernel))
    · exact va_eqt (hgs (Cond.eq (.elem (.static "BalanceRoom" "FACTORIALS" "[I") (.int 8)) (.int 40320)) (by decide +kernel))
  have hZ : zZs (zE0 l D cy s0) s := by
    obtain ⟨t, ht, hT⟩ := va_Tof (A := zA (zE0 l D cy s0)) (tm := (.static "BalanceRoom" "FACTORIALS" "[I")) (ty := .int) (N := 9) (f := fun j => .int (nI (zfac j))) (args := #[Value.ref b]) (s := s) (by decide) (hgs _ (by decide +kernel)) (va_eqt (hgs (Cond.eq (.length (.static "BalanceRoom" "FACTORIALS" "[I")) (.int 9)) (by decide +kernel))) hel hnA
    exact ⟨t, va_Zof (hts _ zl_538) (hts _ (zU_lw zw_39)) ht hnA, hT⟩
  have hI := zI_0 l D cy s0
  have hA : ∀ c2, s0 ≤ (zE0 l D cy s0).2.2.2 c2 := fun c2 => Nat.le_add_right _ _
  have hl := lv_entry ([.ref b]) (n := 4) (Nat.le_of_ble_eq_true rfl)
  rw [lg_entry_eq]
  generalize (lg_sl ([.ref b]) ++ List.replicate (4 - (lg_sl ([.ref b])).length) Slot.unset).toArray = ls at hl ⊢
  have hl : lv_has ls 4 [(0, .ref b)] := hl
  obtain ⟨x, hxe⟩ : ∃ x : zX, x = (p, e, room_1, s, m, #[Value.ref b], below, meth, c, lw_Z below #[Value.ref b] s) := ⟨_, rfl⟩
  have hxo : zOk (zE0 l D cy s0) x cL_law RL 4 room_1 := by rw [hxe]; exact ⟨hx, hb, hml, hown, hwU, hG, hI, rfl⟩
  have hw : zLw (zE0 l D cy s0) s0 x b L xs := ⟨hxo, by rw [hxe]; exact hX, by rw [hxe]; exact hbl, by rw [hxe]; exact hs0, hL, hA, by rw [hxe]; exact hZ⟩
  have hoc : zOc (zE0 l D cy s0) s0 0 x cL_law RL 4 room_1 := by rw [hxe]; exact ⟨hx, hb, hml, hown, hwU, hG2, rfl, hs0⟩
  have hend : ∀ (i : Nat) (M : zM), zL (zE0 l D cy s0) s0 x 1328 (zlv (zE0 l D cy s0) b i) [] M := by
    rw [hxe]
    intro i M H locs ls2 hl2 hP hS
    refine lv_iconst (v := 1) hx hb dL_law_1328 (by decide) ?_
    refine va_forget (fun q hq => by have h := hS.2.2 q hq; rw [hs0]; exact h) ?_
    refine W.widen (k := 600000) (n := 7302250) (Nat.le_of_ble_eq_true rfl) (Nat.le_of_ble_eq_true rfl) ?_
    exact lw_ret hx hb hr hlocks dL_law_1329
  have key : zC (zE0 l D cy s0) s0 x 0 [(0, .ref b)] [] 0 (zTg cy s0) 0 0 := by
    refine zd_mk (ci := 5) (C := RX5) (T := TX5) (N := 9) (fs := [.null, .null, .null, .null, .null, .null, .null, .null, .long 0]) hoc (by rfl) tyX5 zin_X5 tyX5_ok zw_49 zw_50 zw_39 rfl (fun j hj => by rcases (show j = 0 ∨ j = 1 ∨ j = 2 ∨ j = 3 ∨ j = 4 ∨ j = 5 ∨ j = 6 ∨ j = 7 ∨ j = 8 by omega) with rfl | rfl | rfl | rfl | rfl | rfl | rfl | rfl | rfl <;> rfl) (fun f9 h1 => kc_X5 l D cy s0 f9 h1) (Or.inr zw_51) zi_X5 (fun i h1 h2 => rfl) ⟨rfl, rfl⟩ ⟨Nat.le_of_ble_eq_true rfl, Nat.le_of_ble_eq_true rfl⟩ (Nat.le_of_ble_eq_true rfl) (Nat.le_of_ble_eq_true rfl) (Nat.le_of_ble_eq_true rfl) dL_law_0 dL_law_3 dL_law_4 ?_
    show zC (zE0 l D cy s0) s0 x 7 _ [.ref (s0 + 0)] 86 _ 86 896
    refine zc_astore_n hoc (lv2 := [(1, .ref (s0 + 0)), (0, .ref b)]) dL_law_7 rfl (by decide) rfl ?_
    refine zd_mk (ci := 6) (C := RX6) (T := TX6) (N := 24) (fs := [.int 0, .null, .int 0, .int 0, .int 0, .int 0, .null, .null, .null, .null, .null, .int 0, .null, .null, .long 0, .int 0, .null, .null, .long 0, .null, .null, .null, .long 0, .long 0]) hoc (by rfl) tyX6 zin_X6 tyX6_ok zw_570 zw_571 zw_45 rfl (fun j hj => by rcases (show j = 0 ∨ j = 1 ∨ j = 2 ∨ j = 3 ∨ j = 4 ∨ j = 5 ∨ j = 6 ∨ j = 7 ∨ j = 8 ∨ j = 9 ∨ j = 10 ∨ j = 11 ∨ j = 12 ∨ j = 13 ∨ j = 14 ∨ j = 15 ∨ j = 16 ∨ j = 17 ∨ j = 18 ∨ j = 19 ∨ j = 20 ∨ j = 21 ∨ j = 22 ∨ j = 23 by omega) with rfl | rfl | rfl | rfl | rfl | rfl | rfl | rfl | rfl | rfl | rfl | rfl | rfl | rfl | rfl | rfl | rfl | rfl | rfl | rfl | rfl | rfl | rfl | rfl <;> rfl) (fun f9 h1 => kc_X6 l D cy s0 f9 h1) (Or.inr zw_572) zi_X6 (fun i h1 h2 => rfl) ⟨rfl, rfl⟩ ⟨Nat.le_of_ble_eq_true rfl, Nat.le_of_ble_eq_true rfl⟩ (Nat.le_of_ble_eq_true rfl) (Nat.le_of_ble_eq_true rfl) (Nat.le_of_ble_eq_true rfl) dL_law_8 dL_law_11 dL_law_12 ?_
    show zC (zE0 l D cy s0) s0 x 15 _ [.ref (s0 + 86)] 100 _ 100 1437
    refine zc_astore_n hoc (lv2 := [(2, .ref (s0 + 86)), (1, .ref (s0 + 0)), (0, .ref b)]) dL_law_15 rfl (by decide) rfl ?_
    refine zc_iconst hoc (v := nI 0) dL_law_16 (by decide +kernel) ?_
    refine zc_istore_n hoc (lv2 := [(3, .int (nI 0)), (2, .ref (s0 + 86)), (1, .ref (s0 + 0)), (0, .ref b)]) dL_law_17 rfl (by decide) rfl ?_
    have hlp := zloop hI hw hend (L + 1) 0 zM0 zσ0 (Nat.zero_le _) (by omega) zCs_0 zMs_0 z99_0
    exact fun H locs ls2 hl2 hP hS => hlp H locs ls2 hl2 (zwd_of hP (fun i _ => rfl)) hS
  rw [hxe] at key
  exact key s.heap [] ls (by show lv_has ls c.maxLocals _; rw [hml]; exact hl) ⟨by omega, fun i hi => absurd hi (Nat.not_lt_zero _)⟩ va_S.rf

set_option maxHeartbeats 4000000 in
theorem lw_walk (l : Launch) (hflags : l.flags = flags0) (b : Addr) (xs : List Int32) : MetFree l x (headSpec (Jvm.Cond.code x code maxLocals ret :: tables_1) room_1) (lw_P b xs) (fun _ _ _ _ _ => True) lw_Q := by
  refine MetFree.of_bodyS (code := code) (maxLocals := maxLocals) (ret := ret) (by decide) ?_ ?_
  · intro args s m h hn
    obtain ⟨meth, c, h1, h2, h3, h4, h5, h6, -, -⟩ := Cond.code_spec hn (atoms_spec (ws := Jvm.Cond.code x code maxLocals ret :: tables_1) h _ List.mem_cons_self)
    exact ⟨meth, c, h1, h2, h3, h4, h5, h6⟩
  · intro p e s m args below meth c s₁ B hml0 hP _
    obtain ⟨rfl, hx, hbd, hgv⟩ := hP
    obtain ⟨scr, harrAt, hlist, hof, hsmall⟩ := hx
    obtain ⟨hcb, hkn, -, -⟩ := State.arrayAt?_spec harrAt
    have hown : s.vm.findClass R_law = some m.cls := findClass_of_methodNamed B.named
    have hts0 : ∀ c ∈ (Jvm.Cond.code x code maxLocals ret :: tables_1), c.before #[Value.ref b] s = true := atoms_spec (ws := Jvm.Cond.code x code maxLocals ret :: tables_1) B.pre
    have hts : ∀ w ∈ lw_tbl, w.before #[Value.ref b] s = true := k2_hts_sels lw_privs (fun w hw => hts0 w (List.mem_cons_of_mem _ hw)) lw_privs_ok
    have hml : c.maxLocals = 4 := B.maxLocals_eq (hts0 _ List.mem_cons_self)
    have X₀ : Stand p l e room_1 s m #[Value.ref b] below meth c s₁ [] 0 0 := Stand.of_body B
    have hh0 : s₁.heap = s.heap := by rw [B.state]; rfl
    have hsz : scr.slots.size = xs.length := by rw [← Array.length_toList, hlist, List.length_map]
    have hval : ∀ j : Nat, j < xs.length → scr.slots[j]? = some (.int (xs.getD j 0)) := fun j hj => by
      rw [← Array.getElem?_toList, hlist]
      simp [hj]
    have hbl : b < s.heap.size := (Array.getElem?_eq_some_iff.mp hcb).1
    have hX : va_X b xs.length (fun j => xs.getD j 0) s s.heap := ⟨scr, hcb, hof, hkn, hsz, hval⟩
    have K : W p l e room_1 s m #[Value.ref b] below meth c s₁.heap [] 0 0 (lw_Z below #[Value.ref b] s) (entryFrame m ([Value.ref b] : List Value).toArray 4) := by
      rw [hh0]
      exact whole_start l hflags hbd ⟨B.exec, B.bytes, B.returns, hml, hown, hts, hX, hbl, B.notSynchronized, hgv⟩
    obtain ⟨t, a1, o, b1, b2, b3⟩ := K s₁ rfl X₀
    exact ⟨t, o, a1, b1, b2, b3⟩
theorem lw_pre_spec {args : Array Value} {s : State} (h : (Jvm.Cond.and given_1 narrow_1).before args s = true) (hr : rest_1_c.before args s = true) : ∃ (b : Addr) (xs : List Int32), lw_P b xs args s := by
  have hs := flat_of_before _ h
  have hq := flat_of_before _ hr
  have hc : (Cond.count 1).before args s = true := hs _ (by decide +kernel)
  have harr : (Cond.arrayOf (.arg 0) .int).before args s = true := hs _ (by decide +kernel)
  have hle : (Cond.le (.length (.arg 0)) (.int 2048)).before args s = true := hs _ (by decide +kernel)
  have hlen : (Cond.isInt (.length (.arg 0))).before args s = true := hq _ (by decide +kernel)
  have hall : (Cond.all (.arg 0) (.isInt (.elem (.arg 0) (.index 0)))).before args s = true := hq _ (by decide +kernel)
  obtain ⟨b, xs, hb, hx⟩ := State.ints_of_pre rfl harr hlen hall
  have hsm : xs.length < 2 ^ 31 := hx.choose_spec.2.2.2
  have hev : (Term.length (.arg 0)).eval args s none [] s = some (.int xs.length.toInt32) := hx.length_eval hb
  have hv := Cond.le_ints hev (show (Term.int 2048).eval args s none [] s = some (.int 2048) from rfl)
  have hd : xs.length.toInt32 ≤ 2048 := by
    simpa [Cond.before, Cond.holds, hv] using hle
  have hN : xs.length ≤ 2048 := (Int32.ofNat_le_ofNat hsm (by decide)).mp (show Int32.ofNat xs.length ≤ Int32.ofNat 2048 from hd)
  exact ⟨b, xs, Cond.one_arg hc (show args[0]? = some (.ref b) from hb), hx, hN, h⟩
theorem lw_comes (l : Launch) (hflags : l.flags = flags0) : Comes l x (Jvm.Cond.code x code maxLocals ret :: tables_1) room_1 (fun tb e args s => Calls_1 tb e args s ∧ rest_1 tb e args s ∧ Pre_1 tb e args s)
    (fun _ _ args s o t => lw_Q args s o t) := by
  intro p e ha hc hk s m args below hf hfit hheap happ hpre
  obtain ⟨b, xs, hP⟩ := lw_pre_spec hpre.2.2 hpre.2.1
  obtain ⟨k, o, h1, h2, h3, hQ⟩ := lw_walk l hflags b xs p e ha hc hk s m args below hf ((Spec.applies_iff_loose hf).mp happ).1 hP trivial
  exact ⟨k, o, h1, h2, h3, hQ⟩
theorem lw_frame {s t : State} {o : Outcome} {args : Array Value} (h : Framed s o t [] 600000 7302250) :
    Framed s o t (fieldLocs frame_1_writes args s ++ arrayLocs frame_1_arrays args s ++ staticLocs frame_1_statics s) 600000 7302250 := h
theorem lw_limb (L : Cond) (hL : ∀ (args : Array Value) (s t : State), L.after args s (.returned (some (.int 1))) t = true) :
    ArmFor flags0 classFile x code maxLocals ret World_1 tables_1 room_1 Calls_1 rest_1 Pre_1
      (fun tb e a s o t => postC L tb e a s o t ∧ Framed s o t (fieldLocs frame_1_writes a s ++ arrayLocs frame_1_arrays a s ++ staticLocs frame_1_statics s) 600000 7302250) := by
  intro l hflags _ _ p e ha hc hk s m args below hf hfit hheap happ hpre
  obtain ⟨k, o, h1, h2, h3, rfl, hF⟩ := lw_comes l hflags p e ha hc hk s m args below hf hfit hheap happ hpre
  exact ⟨k, _, h1, h2, h3, hL args s _, lw_frame hF⟩
theorem i_vc : Claimed_1_1 ∧ Claimed_1_2 := ⟨lw_limb limb_1_1 (fun args s t => by simp [limb_1_1, Cond.after, Cond.holds, Cond.value]), lw_limb limb_1_2 (fun args s t => Cond.after_iff.mpr (by
  first | (rw [show limb_1_2 = Cond.eq .result (.int 1) from rfl, Cond.eq_ints (x := 1) (y := 1) rfl rfl]; simp; done) | (simp [limb_1_2, Cond.value, Term.eval]; done)))⟩
