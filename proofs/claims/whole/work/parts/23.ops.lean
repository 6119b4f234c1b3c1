theorem zle_nI {x : Int32} {m : Nat} (hm : m < 2 ^ 31) (h1 : ¬ x < 0) (h2 : x ≤ nI m) : ∃ j : Nat, j ≤ m ∧ x = nI j := by
  obtain ⟨j, hj, rfl⟩ := nI_of h1
  exact ⟨j, (nI_leI hj hm).mp h2, rfl⟩
theorem zRm_append {M : zM} {a w n mm k : Nat} {cd : Nat → Nat} {rd : Nat → Int} {z : Int} (h : zRm M a w n mm cd rd) (h8 : n < 8) (hk : zcode w k) (hz1 : -1000 ≤ z) (hz2 : z ≤ 1000) : zRm (zputI (zputI (zputI M (a + 1) n (nI k)) (a + 2) n (Int32.ofInt z)) a 2 (nI (n + 1))) a w (n + 1) mm (va_up cd n k) (va_up rd n z) := by
  obtain ⟨q1, q2, q3, q4, q5, q6, q7⟩ := h
  refine ⟨zskK (by omega) (zskI (by omega) (zskI (by omega) q1)), q2, zskK (by omega) (zskI (by omega) (zskI (by omega) q3)), q4, zhtI, by omega, fun t ht => ?_⟩
  unfold va_up
  by_cases e : t = n
  · subst e
    rw [if_pos rfl, if_pos rfl]
    exact ⟨zskI (by omega) (zskI (by omega) zhtI), zcode_5 q2.2 hk, hk, zskI (by omega) zhtI, hz1, hz2⟩
  · rw [if_neg e, if_neg e]
    obtain ⟨r1, r2, r3, r4, r5⟩ := q7 t (by omega)
    exact ⟨zskI (by omega) (zskI (by omega) (zskK e r1)), r2, r3, zskI (by omega) (zskK e (zskI (by omega) r4)), r5⟩
theorem zRm_remove {M : zM} {a w n mm j : Nat} {cd : Nat → Nat} {rd : Nat → Int} (h : zRm M a w n mm cd rd) (hj : j < n) : zRm (zputI (zsetI (zsetI M (a + 1) (zshf (M.1 (a + 1)) j (n - 1))) (a + 2) (zshf (M.1 (a + 2)) j (n - 1))) a 2 (nI (n - 1))) a w (n - 1) mm (fun k => if j ≤ k then cd (k + 1) else cd k) (fun k => if j ≤ k then rd (k + 1) else rd k) := by
  obtain ⟨q1, q2, q3, q4, q5, q6, q7⟩ := h
  refine ⟨zskK (by omega) (zskSI (by omega) (zskSI (by omega) q1)), q2, zskK (by omega) (zskSI (by omega) (zskSI (by omega) q3)), q4, zhtI, by omega, fun t ht => ?_⟩
  have e1 : (zputI (zsetI (zsetI M (a + 1) (zshf (M.1 (a + 1)) j (n - 1))) (a + 2) (zshf (M.1 (a + 2)) j (n - 1))) a 2 (nI (n - 1))).1 (a + 1) t = zshf (M.1 (a + 1)) j (n - 1) t := zskI (by omega) (zskSI (by omega) zhtSI)
  have e2 : (zputI (zsetI (zsetI M (a + 1) (zshf (M.1 (a + 1)) j (n - 1))) (a + 2) (zshf (M.1 (a + 2)) j (n - 1))) a 2 (nI (n - 1))).1 (a + 2) t = zshf (M.1 (a + 2)) j (n - 1) t := zskI (by omega) zhtSI
  rw [e1, e2]
  unfold zshf
  dsimp only
  by_cases e : j ≤ t
  · simp only [e, ht, and_self, if_true]
    exact q7 (t + 1) (by omega)
  · simp only [e, false_and, if_false]
    exact q7 t (by omega)
def zexch {α : Type} (f : Nat → α) (i j : Nat) : Nat → α := fun k => if k = j then f i else if k = i then f j else f k
theorem zRm_exch {M : zM} {a w n mm i j : Nat} {cd : Nat → Nat} {rd : Nat → Int} (h : zRm M a w n mm cd rd) (hi : i < n) (hj : j < n) (hij : ¬ i = j) : zRm (zputI (zputI (zputI (zputI M (a + 1) i (M.1 (a + 1) j)) (a + 2) i (M.1 (a + 2) j)) (a + 1) j (M.1 (a + 1) i)) (a + 2) j (M.1 (a + 2) i)) a w n mm (zexch cd i j) (zexch rd i j) := by
  obtain ⟨q1, q2, q3, q4, q5, q6, q7⟩ := h
  refine ⟨zskI (by omega) (zskI (by omega) (zskI (by omega) (zskI (by omega) q1))), q2, zskI (by omega) (zskI (by omega) (zskI (by omega) (zskI (by omega) q3))), q4, zskI (by omega) (zskI (by omega) (zskI (by omega) (zskI (by omega) q5))), q6, fun t ht => ?_⟩
  unfold zexch
  by_cases e : t = j
  · subst e
    rw [if_pos rfl, if_pos rfl]
    obtain ⟨r1, r2, r3, r4, r5⟩ := q7 i hi
    exact ⟨zskI (by omega) (zhtI.trans r1), r2, r3, zhtI.trans r4, r5⟩
  · rw [if_neg e, if_neg e]
    by_cases e2 : t = i
    · subst e2
      rw [if_pos rfl, if_pos rfl]
      obtain ⟨r1, r2, r3, r4, r5⟩ := q7 j hj
      exact ⟨zskI (by omega) (zskK e (zskI (by omega) (zhtI.trans r1))), r2, r3, zskK e (zskI (by omega) (zhtI.trans r4)), r5⟩
    · rw [if_neg e2, if_neg e2]
      obtain ⟨r1, r2, r3, r4, r5⟩ := q7 t ht
      exact ⟨zskI (by omega) (zskK e (zskI (by omega) (zskK e2 r1))), r2, r3, zskK e (zskI (by omega) (zskK e2 (zskI (by omega) r4))), r5⟩
theorem zRm_read {M : zM} {a w n mm j : Nat} {cd : Nat → Nat} {rd : Nat → Int} {z : Int} (h : zRm M a w n mm cd rd) (hz1 : -1000 ≤ z) (hz2 : z ≤ 1000) : zRm (zputI M (a + 2) j (Int32.ofInt z)) a w n mm cd (va_up rd j z) := by
  obtain ⟨q1, q2, q3, q4, q5, q6, q7⟩ := h
  refine ⟨zskI (by omega) q1, q2, zskI (by omega) q3, q4, zskI (by omega) q5, q6, fun t ht => ?_⟩
  obtain ⟨r1, r2, r3, r4, r5⟩ := q7 t ht
  unfold va_up
  by_cases e : t = j
  · subst e
    rw [if_pos rfl]
    exact ⟨zskI (by omega) r1, r2, r3, zhtI, hz1, hz2⟩
  · rw [if_neg e]
    exact ⟨zskI (by omega) r1, r2, r3, zskK e r4, r5⟩
theorem zRm_master {M : zM} {a w n mm m : Nat} {cd : Nat → Nat} {rd : Nat → Int} (h : zRm M a w n mm cd rd) (hm : m ≤ 99) : zRm (zputI M a 1 (nI m)) a w n m cd rd := by
  obtain ⟨q1, q2, q3, q4, q5, q6, q7⟩ := h
  refine ⟨zskK (by omega) q1, q2, zhtI, hm, zskK (by omega) q5, q6, fun t ht => ?_⟩
  obtain ⟨r1, r2, r3, r4, r5⟩ := q7 t ht
  exact ⟨zskI (by omega) r1, r2, r3, zskI (by omega) r4, r5⟩
/-- an act: the room is q then -/
def zact (σ : zSt) (q : zRo) : zSt := (σ.1, σ.2.1, q, (zpush σ.2.2.2.1 σ.2.2.2.2.1 σ.2.2.1).1, (zpush σ.2.2.2.1 σ.2.2.2.2.1 σ.2.2.1).2, σ.2.2.2.2.2.1, σ.2.2.2.2.2.2)
theorem zCs_act {M M1 N : zM} {σ : zSt} {q : zRo} (h : zCs M σ) (h1 : zAc M1 (zpush σ.2.2.2.1 σ.2.2.2.2.1 σ.2.2.1).1 (zpush σ.2.2.2.1 σ.2.2.2.2.1 σ.2.2.1).2) (f1 : zfr (fun c => c = 4 ∨ 52 ≤ c ∧ c ≤ 93) M M1) (f2 : zfr (fun c => 46 ≤ c ∧ c ≤ 48) M1 N) (hq : zHr N 46 q) (hw : q.1 = σ.2.2.1.1) : zCs N (zact σ q) ∧ zfC M N := by
  obtain ⟨hT, hH, hA, hS, hD, hO⟩ := h
  have hf : zfr (fun c => c = 4 ∨ 46 ≤ c ∧ c ≤ 48 ∨ 52 ≤ c ∧ c ≤ 93) M N := zfr_tr (zfr_w f1 (fun c h => by omega)) (zfr_w f2 (fun c h => by omega))
  have hs : σ.2.2.2.2.1 ≤ 14 := by obtain ⟨o, _, _, _, h4, _⟩ := hA; exact h4
  refine ⟨⟨zTx_fr hT hf (by omega) (by omega), hq, zAc_fr h1 f2 (by omega) (fun c z1 z2 => by omega), zSl_fr hS hf (by omega) (fun c z1 z2 => by omega), by show N.2 0 8 = _; rw [(hf 0 (by omega)).2]; exact hD, ⟨fun i hi => ?_, fun k p hk hp => ?_⟩⟩, zfr_w hf (fun c h => by omega)⟩
  · show ((zpush σ.2.2.2.1 σ.2.2.2.2.1 σ.2.2.1).1 i).1 = q.1
    rw [hw]
    exact zpush_ok hs hO.1 i hi
  · show p.1 = q.1
    rw [hw]
    exact hO.2 k p hk hp
theorem zin_n {j n : Nat} (h : j < n) (h8 : n ≤ 8) : ¬ (nI j < 0 ∨ nI n ≤ nI j) := by
  rintro (z | z)
  · exact nI_pos (by omega) z
  · exact nI_ge h (by omega) z
theorem zisR_in {z : Int32} (h : zisR z = true) : -1000 ≤ z.toInt ∧ z.toInt ≤ 1000 := by
  have h2 := of_decide_eq_true h
  have a := Int32.le_iff_toInt_le.mp h2.1
  have b := Int32.le_iff_toInt_le.mp h2.2
  have e1 : (-999 : Int32).toInt = -999 := by decide +kernel
  have e2 : (999 : Int32).toInt = 999 := by decide +kernel
  rw [e1] at a
  rw [e2] at b
  omega
def zop_write (σ : zSt) (l : Int32) : Int32 × zSt := if l < 0 ∨ ¬ l ≤ nI 255 then (-2, σ) else if 90 ≤ σ.2.1 then (-4, σ) else (nI (σ.2.1 + 1), (va_up σ.1 σ.2.1 l.toNatClampNeg, σ.2.1 + 1, σ.2.2))
set_option maxHeartbeats 4000000 in
set_option maxRecDepth 100000 in
theorem k_X5_write {E : zE} (hI : zI E) (M : zM) {σ : zSt} (hσ : zCs M σ) (l : Int32) : zK E yX5_write (.code yX5_write cX5_write 2 (some .int)) (zrm 0 0) [.ref (E.2.2.2 0), .int l] M (zpi (fun v M2 => v = (zop_write σ l).1 ∧ zCs M2 (zop_write σ l).2 ∧ zfC M M2)) := by
  refine zK_of hI (by decide) (Nat.le_of_ble_eq_true rfl) (fun x hx ri rz rl rv => ?_)
  show zJ E x 0 [(0, .ref (E.2.2.2 0)), (1, .int l)] [] M
  obtain ⟨tx, len, ⟨w, n, mm, cd, rd⟩, as, s, sl, sd⟩ := σ
  have hσ2 := hσ
  obtain ⟨hT, hH, hA, hS, hD, hO⟩ := hσ
  have hR : zRm M 46 w n mm cd rd := hH
  have hTx : zTx M tx len := hT
  have hn8 := hR.2.2.2.2.2.1
  have hw4 := hR.2.1
  have hlen := hTx.2.1
  have hsd : M.2 0 8 = sd := hD
  obtain ⟨o, ho14, ho, hs, hs14, has⟩ := id hA
  have hs : M.1 4 2 = nI s := hs
  have hs14 : s ≤ 14 := hs14
  refine z_iload_n hx 1 dX5_write_0 rfl rfl ?_
  refine z_if_lt (tgt := 11) hx dX5_write_1 (by decide) (fun h1 => ?_) (fun h1 => ?_)
  · skip
    refine z_bipush hx (v := (-2)) dX5_write_11 rfl ?_
    exact ri _ _ _ _ rfl ⟨_, rfl, (by rw [zop_write, if_pos (by first | exact Or.inl h1 | exact Or.inr h8)]; exact ⟨rfl, hσ2, zfr_rf _ _⟩)⟩ dX5_write_13
  · skip
    refine z_iload_n hx 1 dX5_write_4 rfl rfl ?_
    refine z_sipush hx (v := nI 255) dX5_write_5 (by decide +kernel) ?_
    refine z_icmp_le (tgt := 14) hx dX5_write_8 (by decide) (fun h8 => ?_) (fun h8 => ?_)
    · skip
      obtain ⟨j, hj, rfl⟩ := zle_nI (by decide) h1 h8
      refine z_aload_n hx 0 dX5_write_14 rfl rfl ?_
      refine zg_X5_0 hx zw_174 dX5_write_15 ?_
      refine zg_X4_1 hx zw_66 dX5_write_18 ?_
      refine z_eqi (b := nI len) hTx.1 ?_
      refine z_bipush hx (v := nI 90) dX5_write_21 (by decide +kernel) ?_
      refine z_icmp_lt_n (tgt := 29) hx (by omega) (by omega) dX5_write_23 (by decide) (fun h23 => ?_) (fun h23 => ?_)
      · skip
        refine z_aload_n hx 0 dX5_write_29 rfl rfl ?_
        refine zg_X5_0 hx zw_174 dX5_write_30 ?_
        refine zg_X4_0 hx zw_64 dX5_write_33 ?_
        refine z_aload_n hx 0 dX5_write_36 rfl rfl ?_
        refine zg_X5_0 hx zw_174 dX5_write_37 ?_
        refine zg_X4_1 hx zw_66 dX5_write_40 ?_
        refine z_eqi (b := nI len) hTx.1 ?_
        refine z_iload_n hx 1 dX5_write_43 rfl rfl ?_
        refine z_iast_n hx (zIA_2 E) (by omega) dX5_write_44 ?_
        refine z_aload_n hx 0 dX5_write_45 rfl rfl ?_
        refine zg_X5_0 hx zw_174 dX5_write_46 ?_
        refine z_dup hx dX5_write_49 rfl ?_
        refine zg_X4_1 hx zw_66 dX5_write_50 ?_
        refine z_eqi (b := nI len) (zskI (by omega) hTx.1) ?_
        refine z_iconst hx (v := nI 1) dX5_write_53 (by decide +kernel) ?_
        refine z_iadd_n hx dX5_write_54 ?_
        refine zp_X4_1 hx zw_66 dX5_write_55 ?_
        refine z_aload_n hx 0 dX5_write_58 rfl rfl ?_
        refine zg_X5_0 hx zw_174 dX5_write_59 ?_
        refine zg_X4_1 hx zw_66 dX5_write_62 ?_
        refine z_eqi (b := nI (len + 1)) zhtI ?_
        exact ri _ _ _ _ rfl ⟨_, rfl, (by
            have e : zop_write (tx, len, (w, n, mm, cd, rd), as, s, sl, sd) (nI j) = (nI (len + 1), (va_up tx len j, len + 1, (w, n, mm, cd, rd), as, s, sl, sd)) := by
              rw [zop_write, if_neg (by rintro (z | z); exact h1 z; exact z h8), if_neg (by show ¬ 90 ≤ len; omega), nI_clamp (by omega)]
            rw [e]
            have hf : zfr (fun c => c = 1 ∨ c = 2) M (zputI (zputI M 2 len (nI j)) 1 1 (nI (len + 1))) := zfr_tr (zfr_putI (Or.inr rfl)) (zfr_putI (Or.inl rfl))
            refine ⟨rfl, ⟨⟨zhtI, by show len + 1 ≤ 90; omega, fun k hk => ?_⟩, zHr_fr hH hf (by omega) (by omega) (by omega), zAc_fr hA hf (by omega) (fun c z1 z2 => by omega), zSl_fr hS hf (by omega) (fun c z1 z2 => by omega), hD, hO⟩, zfr_w hf (fun c h => by omega)⟩
            show (zputI (zputI M 2 len (nI j)) 1 1 (nI (len + 1))).1 2 k = nI (va_up tx len j k) ∧ va_up tx len j k ≤ 255
            unfold va_up
            by_cases e2 : k = len
            · subst e2
              rw [if_pos rfl]
              exact ⟨zskI (by omega) zhtI, hj⟩
            · rw [if_neg e2]
              exact ⟨zskI (by omega) (zskK e2 (hTx.2.2 k hk).1), (hTx.2.2 k hk).2⟩)⟩ dX5_write_65
      · skip
        refine z_bipush hx (v := (-4)) dX5_write_26 rfl ?_
        exact ri _ _ _ _ rfl ⟨_, rfl, (by rw [zop_write, if_neg (by rintro (z | z); exact h1 z; exact z h8), if_pos h23]; exact ⟨rfl, hσ2, zfr_rf _ _⟩)⟩ dX5_write_28
    · skip
      refine z_bipush hx (v := (-2)) dX5_write_11 rfl ?_
      exact ri _ _ _ _ rfl ⟨_, rfl, (by rw [zop_write, if_pos (by first | exact Or.inl h1 | exact Or.inr h8)]; exact ⟨rfl, hσ2, zfr_rf _ _⟩)⟩ dX5_write_13
def zop_wipe (σ : zSt) : Int32 × zSt := (nI σ.2.1, (σ.1, 0, σ.2.2))
set_option maxHeartbeats 4000000 in
set_option maxRecDepth 100000 in
theorem k_X5_wipe {E : zE} (hI : zI E) (M : zM) {σ : zSt} (hσ : zCs M σ)  : zK E yX5_wipe (.code yX5_wipe cX5_wipe 2 (some .int)) (zrm 0 0) [.ref (E.2.2.2 0)] M (zpi (fun v M2 => v = (zop_wipe σ ).1 ∧ zCs M2 (zop_wipe σ ).2 ∧ zfC M M2)) := by
  refine zK_of hI (by decide) (Nat.le_of_ble_eq_true rfl) (fun x hx ri rz rl rv => ?_)
  show zJ E x 0 [(0, .ref (E.2.2.2 0))] [] M
  obtain ⟨tx, len, ⟨w, n, mm, cd, rd⟩, as, s, sl, sd⟩ := σ
  have hσ2 := hσ
  obtain ⟨hT, hH, hA, hS, hD, hO⟩ := hσ
  have hR : zRm M 46 w n mm cd rd := hH
  have hTx : zTx M tx len := hT
  have hn8 := hR.2.2.2.2.2.1
  have hw4 := hR.2.1
  have hlen := hTx.2.1
  have hsd : M.2 0 8 = sd := hD
  obtain ⟨o, ho14, ho, hs, hs14, has⟩ := id hA
  have hs : M.1 4 2 = nI s := hs
  have hs14 : s ≤ 14 := hs14
  refine z_aload_n hx 0 dX5_wipe_0 rfl rfl ?_
  refine zg_X5_0 hx zw_174 dX5_wipe_1 ?_
  refine zg_X4_1 hx zw_66 dX5_wipe_4 ?_
  refine z_eqi (b := nI len) hTx.1 ?_
  refine z_istore_n hx (lv2 := [(1, .int (nI len)), (0, .ref (E.2.2.2 0))]) dX5_wipe_7 rfl (by decide) rfl ?_
  refine z_aload_n hx 1 dX5_wipe_8 rfl rfl ?_
  refine zg_X5_0 hx zw_174 dX5_wipe_9 ?_
  refine z_iconst hx (v := nI 0) dX5_wipe_12 (by decide +kernel) ?_
  refine zp_X4_1 hx zw_66 dX5_wipe_13 ?_
  refine z_iload_n hx 0 dX5_wipe_16 rfl rfl ?_
  exact ri _ _ _ _ rfl ⟨_, rfl, (by
      have hf : zfr (fun c => c = 1) M (zputI M 1 1 (nI 0)) := zfr_putI rfl
      exact ⟨rfl, ⟨⟨zhtI, by show 0 ≤ 90; omega, fun k hk => by rw [(hf 2 (by omega)).1]; exact hTx.2.2 k hk⟩, zHr_fr hH hf (by omega) (by omega) (by omega), zAc_fr hA hf (by omega) (fun c z1 z2 => by omega), zSl_fr hS hf (by omega) (fun c z1 z2 => by omega), hD, hO⟩, zfr_w hf (fun c h => by omega)⟩)⟩ dX5_wipe_17

set_option maxHeartbeats 4000000 in
set_option maxRecDepth 100000 in
theorem k_X5_fault {E : zE} (hI : zI E) (M : zM) {σ : zSt} (hσ : zCs M σ)  : zK E yX5_fault (.code yX5_fault cX5_fault 1 (some .int)) (zrm 4 86) [.ref (E.2.2.2 0)] M (zpi (fun v M2 => zFt σ.1 σ.2.1 v ∧ M2 = M)) := by
  refine zK_of hI (by decide) (Nat.le_of_ble_eq_true rfl) (fun x hx ri rz rl rv => ?_)
  show zJ E x 0 [(0, .ref (E.2.2.2 0))] [] M
  obtain ⟨tx, len, ⟨w, n, mm, cd, rd⟩, as, s, sl, sd⟩ := σ
  have hσ2 := hσ
  obtain ⟨hT, hH, hA, hS, hD, hO⟩ := hσ
  have hR : zRm M 46 w n mm cd rd := hH
  have hTx : zTx M tx len := hT
  have hn8 := hR.2.2.2.2.2.1
  have hw4 := hR.2.1
  have hlen := hTx.2.1
  have hsd : M.2 0 8 = sd := hD
  obtain ⟨o, ho14, ho, hs, hs14, has⟩ := id hA
  have hs : M.1 4 2 = nI s := hs
  have hs14 : s ≤ 14 := hs14
  refine z_aload_n hx 0 dX5_fault_0 rfl rfl ?_
  refine zg_X5_0 hx zw_174 dX5_fault_1 ?_
  refine z_callV hx (As := []) (st := []) (k_X4_faultPlace hI M hTx) zw_214 zy_X4_faultPlace ⟨rfl, rfl⟩ (by decide) (zOB_X4 E) rfl rfl rfl rfl (Nat.le_of_ble_eq_true rfl) dX5_fault_4 ?_
  rintro _ M4 ⟨v4, rfl, q4⟩
  obtain ⟨q4, hmm⟩ := q4
  rw [hmm]
  show zJ E x 7 _ [.int v4] _
  exact ri _ _ _ _ rfl ⟨_, rfl, ⟨q4, rfl⟩⟩ dX5_fault_7
def zop_code (σ : zSt) (t : Int32) : Int32 := if t < 0 ∨ nI σ.2.2.1.2.1 ≤ t then -1 else nI (σ.2.2.1.2.2.2.1 t.toNatClampNeg)
set_option maxHeartbeats 4000000 in
set_option maxRecDepth 100000 in
theorem k_X5_code {E : zE} (hI : zI E) (M : zM) {σ : zSt} (hσ : zCs M σ) (t : Int32) : zK E yX5_code (.code yX5_code cX5_code 2 (some .int)) (zrm 1 21) [.ref (E.2.2.2 0), .int t] M (zpi (fun v M2 => v = zop_code σ t ∧ M2 = M)) := by
  refine zK_of hI (by decide) (Nat.le_of_ble_eq_true rfl) (fun x hx ri rz rl rv => ?_)
  show zJ E x 0 [(0, .ref (E.2.2.2 0)), (1, .int t)] [] M
  obtain ⟨tx, len, ⟨w, n, mm, cd, rd⟩, as, s, sl, sd⟩ := σ
  have hσ2 := hσ
  obtain ⟨hT, hH, hA, hS, hD, hO⟩ := hσ
  have hR : zRm M 46 w n mm cd rd := hH
  have hTx : zTx M tx len := hT
  have hn8 := hR.2.2.2.2.2.1
  have hw4 := hR.2.1
  have hlen := hTx.2.1
  have hsd : M.2 0 8 = sd := hD
  obtain ⟨o, ho14, ho, hs, hs14, has⟩ := id hA
  have hs : M.1 4 2 = nI s := hs
  have hs14 : s ≤ 14 := hs14
  refine z_aload_n hx 0 dX5_code_0 rfl rfl ?_
  refine zg_X5_1 hx zw_175 dX5_code_1 ?_
  refine z_iload_n hx 1 dX5_code_4 rfl rfl ?_
  refine z_callV hx (As := [.int t]) (st := []) (k_X3_has hI M zRoom_46 hR.2.2.2.2.1 hn8 t) zw_280 zy_X3_has ⟨rfl, rfl⟩ (by decide) (zOB_room zRoom_46 E) rfl rfl rfl rfl (Nat.le_of_ble_eq_true rfl) dX5_code_5 ?_
  rintro _ M5 ⟨v5, rfl, q5⟩
  obtain ⟨q5, hmm⟩ := q5
  rw [hmm]
  rcases q5 with ⟨j, hj, rfl, rfl⟩ | ⟨q5, rfl⟩
  · skip
    show zJ E x 8 _ [.int (nI 1)] _
    refine z_if_eq_n (tgt := 23) hx (by decide) dX5_code_8 (by decide) (fun h => absurd h (by decide)) (fun _ => ?_)
    refine z_aload_n hx 0 dX5_code_11 rfl rfl ?_
    refine zg_X5_1 hx zw_175 dX5_code_12 ?_
    refine zg_X3_3 hx zRoom_46 zw_89 dX5_code_15 ?_
    refine z_iload_n hx 1 dX5_code_18 rfl rfl ?_
    refine z_iald_n hx (zIA_codes zRoom_46 E) (by omega) dX5_code_19 ?_
    refine z_eqi (b := nI (cd j)) (hR.2.2.2.2.2.2 j (by omega)).1 ?_
    refine z_goto (tgt := 24) hx dX5_code_20 (by decide) ?_
    exact ri _ _ _ _ rfl ⟨_, rfl, ⟨by rw [zop_code, if_neg (zin_n hj hn8), nI_clamp (by omega)], rfl⟩⟩ dX5_code_24
  · skip
    show zJ E x 8 _ [.int (nI 0)] _
    refine z_if_eq_n (tgt := 23) hx (by decide) dX5_code_8 (by decide) (fun _ => ?_) (fun h => absurd h (by decide))
    refine z_iconst hx (v := (-1)) dX5_code_23 rfl ?_
    exact ri _ _ _ _ rfl ⟨_, rfl, ⟨by rw [zop_code, if_pos q5], rfl⟩⟩ dX5_code_24
def zop_reading (σ : zSt) (t : Int32) : Int32 := if t < 0 ∨ nI σ.2.2.1.2.1 ≤ t then -1 else Int32.ofInt (σ.2.2.1.2.2.2.2 t.toNatClampNeg) + nI 1000
set_option maxHeartbeats 4000000 in
set_option maxRecDepth 100000 in
theorem k_X5_reading {E : zE} (hI : zI E) (M : zM) {σ : zSt} (hσ : zCs M σ) (t : Int32) : zK E yX5_reading (.code yX5_reading cX5_reading 2 (some .int)) (zrm 1 21) [.ref (E.2.2.2 0), .int t] M (zpi (fun v M2 => v = zop_reading σ t ∧ M2 = M)) := by
  refine zK_of hI (by decide) (Nat.le_of_ble_eq_true rfl) (fun x hx ri rz rl rv => ?_)
  show zJ E x 0 [(0, .ref (E.2.2.2 0)), (1, .int t)] [] M
  obtain ⟨tx, len, ⟨w, n, mm, cd, rd⟩, as, s, sl, sd⟩ := σ
  have hσ2 := hσ
  obtain ⟨hT, hH, hA, hS, hD, hO⟩ := hσ
  have hR : zRm M 46 w n mm cd rd := hH
  have hTx : zTx M tx len := hT
  have hn8 := hR.2.2.2.2.2.1
  have hw4 := hR.2.1
  have hlen := hTx.2.1
  have hsd : M.2 0 8 = sd := hD
  obtain ⟨o, ho14, ho, hs, hs14, has⟩ := id hA
  have hs : M.1 4 2 = nI s := hs
  have hs14 : s ≤ 14 := hs14
  refine z_aload_n hx 0 dX5_reading_0 rfl rfl ?_
  refine zg_X5_1 hx zw_175 dX5_reading_1 ?_
  refine z_iload_n hx 1 dX5_reading_4 rfl rfl ?_
  refine z_callV hx (As := [.int t]) (st := []) (k_X3_has hI M zRoom_46 hR.2.2.2.2.1 hn8 t) zw_280 zy_X3_has ⟨rfl, rfl⟩ (by decide) (zOB_room zRoom_46 E) rfl rfl rfl rfl (Nat.le_of_ble_eq_true rfl) dX5_reading_5 ?_
  rintro _ M5 ⟨v5, rfl, q5⟩
  obtain ⟨q5, hmm⟩ := q5
  rw [hmm]
  rcases q5 with ⟨j, hj, rfl, rfl⟩ | ⟨q5, rfl⟩
  · skip
    show zJ E x 8 _ [.int (nI 1)] _
    refine z_if_eq_n (tgt := 27) hx (by decide) dX5_reading_8 (by decide) (fun h => absurd h (by decide)) (fun _ => ?_)
    refine z_aload_n hx 0 dX5_reading_11 rfl rfl ?_
    refine zg_X5_1 hx zw_175 dX5_reading_12 ?_
    refine zg_X3_4 hx zRoom_46 zw_91 dX5_reading_15 ?_
    refine z_iload_n hx 1 dX5_reading_18 rfl rfl ?_
    refine z_iald_n hx (zIA_reads zRoom_46 E) (by omega) dX5_reading_19 ?_
    refine z_eqi (b := Int32.ofInt (rd j)) (hR.2.2.2.2.2.2 j (by omega)).2.2.2.1 ?_
    refine z_sipush hx (v := nI 1000) dX5_reading_20 (by decide +kernel) ?_
    refine z_iadd hx dX5_reading_23 ?_
    refine z_goto (tgt := 28) hx dX5_reading_24 (by decide) ?_
    exact ri _ _ _ _ rfl ⟨_, rfl, ⟨by rw [zop_reading, if_neg (zin_n hj hn8), nI_clamp (by omega)], rfl⟩⟩ dX5_reading_28
  · skip
    show zJ E x 8 _ [.int (nI 0)] _
    refine z_if_eq_n (tgt := 27) hx (by decide) dX5_reading_8 (by decide) (fun _ => ?_) (fun h => absurd h (by decide))
    refine z_iconst hx (v := (-1)) dX5_reading_27 rfl ?_
    exact ri _ _ _ _ rfl ⟨_, rfl, ⟨by rw [zop_reading, if_pos q5], rfl⟩⟩ dX5_reading_28
def zop_seed (σ : zSt) (z : Int64) : Int64 × zSt := (σ.2.2.2.2.2.2, (σ.1, σ.2.1, σ.2.2.1, σ.2.2.2.1, σ.2.2.2.2.1, σ.2.2.2.2.2.1, z))
set_option maxHeartbeats 4000000 in
set_option maxRecDepth 100000 in
theorem k_X5_seed {E : zE} (hI : zI E) (M : zM) {σ : zSt} (hσ : zCs M σ) (z : Int64) : zK E yX5_seed (.code yX5_seed cX5_seed 5 (some .long)) (zrm 0 0) [.ref (E.2.2.2 0), .long z] M (zpl (fun v M2 => v = (zop_seed σ z).1 ∧ zCs M2 (zop_seed σ z).2 ∧ zfC M M2)) := by
  refine zK_of hI (by decide) (Nat.le_of_ble_eq_true rfl) (fun x hx ri rz rl rv => ?_)
  show zJ E x 0 [(0, .ref (E.2.2.2 0)), (1, .long z)] [] M
  obtain ⟨tx, len, ⟨w, n, mm, cd, rd⟩, as, s, sl, sd⟩ := σ
  have hσ2 := hσ
  obtain ⟨hT, hH, hA, hS, hD, hO⟩ := hσ
  have hR : zRm M 46 w n mm cd rd := hH
  have hTx : zTx M tx len := hT
  have hn8 := hR.2.2.2.2.2.1
  have hw4 := hR.2.1
  have hlen := hTx.2.1
  have hsd : M.2 0 8 = sd := hD
  obtain ⟨o, ho14, ho, hs, hs14, has⟩ := id hA
  have hs : M.1 4 2 = nI s := hs
  have hs14 : s ≤ 14 := hs14
  refine z_aload_n hx 0 dX5_seed_0 rfl rfl ?_
  refine zg_X5_8 hx zw_182 dX5_seed_1 ?_
  refine z_eql (b := sd) hsd ?_
  refine z_lstore_n hx (lv2 := [(3, .long sd), (0, .ref (E.2.2.2 0)), (1, .long z)]) dX5_seed_4 rfl (by decide) rfl ?_
  refine z_aload_n hx 1 dX5_seed_5 rfl rfl ?_
  refine z_lload_n hx 2 dX5_seed_6 rfl rfl ?_
  refine zp_X5_8 hx zw_182 dX5_seed_7 ?_
  refine z_lload_n hx 0 dX5_seed_10 rfl rfl ?_
  exact rl _ _ _ _ rfl ⟨_, rfl, (by
      have hf : zfr (fun c => c = 0) M (zputJ M 0 8 z) := zfr_putJ rfl
      exact ⟨rfl, ⟨zTx_fr hT hf (by omega) (by omega), zHr_fr hH hf (by omega) (by omega) (by omega), zAc_fr hA hf (by omega) (fun c z1 z2 => by omega), zSl_fr hS hf (by omega) (fun c z1 z2 => by omega), zhtJ, hO⟩, zfr_w hf (fun c h => by omega)⟩)⟩ dX5_seed_11
def zop_weigh (σ : zSt) (c z : Int32) : Int32 × zSt := if zisC σ.2.2.1.1 c && zisR z then (if 8 ≤ σ.2.2.1.2.1 then (-4, σ) else (nI (σ.2.2.1.2.1 + 1), zact σ (σ.2.2.1.1, σ.2.2.1.2.1 + 1, σ.2.2.1.2.2.1, va_up σ.2.2.1.2.2.2.1 σ.2.2.1.2.1 c.toNatClampNeg, va_up σ.2.2.1.2.2.2.2 σ.2.2.1.2.1 z.toInt))) else (-2, σ)
set_option maxHeartbeats 4000000 in
set_option maxRecDepth 100000 in
theorem k_X5_weigh {E : zE} (hI : zI E) (M : zM) {σ : zSt} (hσ : zCs M σ) (c z : Int32) : zK E yX5_weigh (.code yX5_weigh cX5_weigh 3 (some .int)) (zrm 3 68) [.ref (E.2.2.2 0), .int c, .int z] M (zpi (fun v M2 => v = (zop_weigh σ c z).1 ∧ zCs M2 (zop_weigh σ c z).2 ∧ zfC M M2)) := by
  refine zK_of hI (by decide) (Nat.le_of_ble_eq_true rfl) (fun x hx ri rz rl rv => ?_)
  show zJ E x 0 [(0, .ref (E.2.2.2 0)), (1, .int c), (2, .int z)] [] M
  obtain ⟨tx, len, ⟨w, n, mm, cd, rd⟩, as, s, sl, sd⟩ := σ
  have hσ2 := hσ
  obtain ⟨hT, hH, hA, hS, hD, hO⟩ := hσ
  have hR : zRm M 46 w n mm cd rd := hH
  have hTx : zTx M tx len := hT
  have hn8 := hR.2.2.2.2.2.1
  have hw4 := hR.2.1
  have hlen := hTx.2.1
  have hsd : M.2 0 8 = sd := hD
  obtain ⟨o, ho14, ho, hs, hs14, has⟩ := id hA
  have hs : M.1 4 2 = nI s := hs
  have hs14 : s ≤ 14 := hs14
  refine z_iload_n hx 1 dX5_weigh_0 rfl rfl ?_
  refine z_aload_n hx 0 dX5_weigh_1 rfl rfl ?_
  refine zg_X5_1 hx zw_175 dX5_weigh_2 ?_
  refine zg_X3_0 hx zRoom_46 zw_81 dX5_weigh_5 ?_
  refine z_eqi (b := nI w) hR.1 ?_
  refine z_callS hx (As := [.int c, .int (nI w)]) (st := []) (k_X5_isCode hI M c w (by omega)) zw_292 zy_X5_isCode ⟨rfl, rfl⟩ (by decide) rfl rfl (Nat.le_of_ble_eq_true rfl) dX5_weigh_8 ?_
  rintro _ M8 ⟨v8, rfl, q8⟩
  obtain ⟨q8, hmm⟩ := q8
  rw [hmm]
  rcases q8 with ⟨q8, rfl⟩ | ⟨q8, rfl⟩
  · skip
    show zJ E x 11 _ [.int (nI 1)] _
    refine z_if_eq_n (tgt := 21) hx (by decide) dX5_weigh_11 (by decide) (fun h => absurd h (by decide)) (fun _ => ?_)
    refine z_iload_n hx 2 dX5_weigh_14 rfl rfl ?_
    refine z_callS hx (As := [.int z]) (st := []) (k_X5_isReading hI M z) zw_295 zy_X5_isReading ⟨rfl, rfl⟩ (by decide) rfl rfl (Nat.le_of_ble_eq_true rfl) dX5_weigh_15 ?_
    rintro _ M15 ⟨v15, rfl, q15⟩
    obtain ⟨q15, hmm⟩ := q15
    rw [hmm]
    rcases q15 with ⟨q15, rfl⟩ | ⟨q15, rfl⟩
    · skip
      show zJ E x 18 _ [.int (nI 1)] _
      refine z_if_ne_n (tgt := 24) hx (by decide) dX5_weigh_18 (by decide) (fun _ => ?_) (fun h => absurd h (by decide))
      refine z_aload_n hx 0 dX5_weigh_24 rfl rfl ?_
      refine zg_X5_1 hx zw_175 dX5_weigh_25 ?_
      refine zg_X3_2 hx zRoom_46 zw_86 dX5_weigh_28 ?_
      refine z_eqi (b := nI n) hR.2.2.2.2.1 ?_
      refine z_bipush hx (v := nI 8) dX5_weigh_31 (by decide +kernel) ?_
      refine z_icmp_lt_n (tgt := 39) hx (by omega) (by omega) dX5_weigh_33 (by decide) (fun h33 => ?_) (fun h33 => ?_)
      · skip
        refine z_aload_n hx 0 dX5_weigh_39 rfl rfl ?_
        refine zg_X5_3 hx zw_177 dX5_weigh_40 ?_
        refine z_aload_n hx 0 dX5_weigh_43 rfl rfl ?_
        refine zg_X5_1 hx zw_175 dX5_weigh_44 ?_
        refine z_callV hx (As := [.ref (E.2.2.2 46)]) (st := []) (kc_remember hI M hH hA) zw_298 zy_X0_remember ⟨rfl, rfl⟩ (by decide) (zOB_X0 E) rfl rfl rfl rfl (Nat.le_of_ble_eq_true rfl) dX5_weigh_47 ?_
        rintro _ M47 ⟨rfl, q47⟩
        show zJ E x 50 _ [] _
        have hR1 : zRm M47 46 w n mm cd rd := zRm_fr hR q47.2 (by omega) (by omega) (by omega)
        refine z_aload_n hx 0 dX5_weigh_50 rfl rfl ?_
        refine zg_X5_1 hx zw_175 dX5_weigh_51 ?_
        refine z_iload_n hx 1 dX5_weigh_54 rfl rfl ?_
        refine z_iload_n hx 2 dX5_weigh_55 rfl rfl ?_
        refine z_callV hx (As := [.int c, .int z]) (st := []) (k_X3_append hI M47 zRoom_46 hR1.2.2.2.2.1 (by omega) c z) zw_309 zy_X3_append ⟨rfl, rfl⟩ (by decide) (zOB_room zRoom_46 E) rfl rfl rfl rfl (Nat.le_of_ble_eq_true rfl) dX5_weigh_56 ?_
        rintro _ M56 ⟨rfl, q56⟩
        subst q56
        show zJ E x 59 _ [] _
        refine z_aload_n hx 0 dX5_weigh_59 rfl rfl ?_
        refine zg_X5_1 hx zw_175 dX5_weigh_60 ?_
        refine zg_X3_2 hx zRoom_46 zw_86 dX5_weigh_63 ?_
        refine z_eqi (b := nI (n + 1)) zhtI ?_
        exact ri _ _ _ _ rfl ⟨_, rfl, (by
            rw [zop_weigh, if_pos (by simp [*]), if_neg (by show ¬ 8 ≤ n; omega)]
            obtain ⟨k, hk31, rfl, hkc⟩ := zisC_ex q8
            rw [nI_clamp hk31]
            have hz := zisR_in q15
            have hap := zRm_append (z := z.toInt) hR1 (by omega) hkc hz.1 hz.2
            rw [Int32.ofInt_toInt] at hap
            exact ⟨rfl, zCs_act hσ2 q47.1 q47.2 (zfr_tr (zfr_tr (zfr_putI (by omega)) (zfr_putI (by omega))) (zfr_putI (by omega))) hap rfl⟩)⟩ dX5_weigh_66
      · skip
        refine z_bipush hx (v := (-4)) dX5_weigh_36 rfl ?_
        exact ri _ _ _ _ rfl ⟨_, rfl, (by rw [zop_weigh, if_pos (by simp [*]), if_pos h33]; exact ⟨rfl, hσ2, zfr_rf _ _⟩)⟩ dX5_weigh_38
    · skip
      show zJ E x 18 _ [.int (nI 0)] _
      refine z_if_ne_n (tgt := 24) hx (by decide) dX5_weigh_18 (by decide) (fun h => absurd h (by decide)) (fun _ => ?_)
      refine z_bipush hx (v := (-2)) dX5_weigh_21 rfl ?_
      exact ri _ _ _ _ rfl ⟨_, rfl, (by rw [zop_weigh, if_neg (by simp [*])]; exact ⟨rfl, hσ2, zfr_rf _ _⟩)⟩ dX5_weigh_23
  · skip
    show zJ E x 11 _ [.int (nI 0)] _
    refine z_if_eq_n (tgt := 21) hx (by decide) dX5_weigh_11 (by decide) (fun _ => ?_) (fun h => absurd h (by decide))
    refine z_bipush hx (v := (-2)) dX5_weigh_21 rfl ?_
    exact ri _ _ _ _ rfl ⟨_, rfl, (by rw [zop_weigh, if_neg (by simp [*])]; exact ⟨rfl, hσ2, zfr_rf _ _⟩)⟩ dX5_weigh_23
def zop_take (σ : zSt) (t : Int32) : Int32 × zSt := if t < 0 ∨ nI σ.2.2.1.2.1 ≤ t then (-1, σ) else (nI (σ.2.2.1.2.1 - 1), zact σ (σ.2.2.1.1, σ.2.2.1.2.1 - 1, σ.2.2.1.2.2.1, (fun k => if t.toNatClampNeg ≤ k then σ.2.2.1.2.2.2.1 (k + 1) else σ.2.2.1.2.2.2.1 k), (fun k => if t.toNatClampNeg ≤ k then σ.2.2.1.2.2.2.2 (k + 1) else σ.2.2.1.2.2.2.2 k)))
set_option maxHeartbeats 4000000 in
set_option maxRecDepth 100000 in
theorem k_X5_take {E : zE} (hI : zI E) (M : zM) {σ : zSt} (hσ : zCs M σ) (t : Int32) : zK E yX5_take (.code yX5_take cX5_take 2 (some .int)) (zrm 3 68) [.ref (E.2.2.2 0), .int t] M (zpi (fun v M2 => v = (zop_take σ t).1 ∧ zCs M2 (zop_take σ t).2 ∧ zfC M M2)) := by
  refine zK_of hI (by decide) (Nat.le_of_ble_eq_true rfl) (fun x hx ri rz rl rv => ?_)
  show zJ E x 0 [(0, .ref (E.2.2.2 0)), (1, .int t)] [] M
  obtain ⟨tx, len, ⟨w, n, mm, cd, rd⟩, as, s, sl, sd⟩ := σ
  have hσ2 := hσ
  obtain ⟨hT, hH, hA, hS, hD, hO⟩ := hσ
  have hR : zRm M 46 w n mm cd rd := hH
  have hTx : zTx M tx len := hT
  have hn8 := hR.2.2.2.2.2.1
  have hw4 := hR.2.1
  have hlen := hTx.2.1
  have hsd : M.2 0 8 = sd := hD
  obtain ⟨o, ho14, ho, hs, hs14, has⟩ := id hA
  have hs : M.1 4 2 = nI s := hs
  have hs14 : s ≤ 14 := hs14
  refine z_aload_n hx 0 dX5_take_0 rfl rfl ?_
  refine zg_X5_1 hx zw_175 dX5_take_1 ?_
  refine z_iload_n hx 1 dX5_take_4 rfl rfl ?_
  refine z_callV hx (As := [.int t]) (st := []) (k_X3_has hI M zRoom_46 hR.2.2.2.2.1 hn8 t) zw_280 zy_X3_has ⟨rfl, rfl⟩ (by decide) (zOB_room zRoom_46 E) rfl rfl rfl rfl (Nat.le_of_ble_eq_true rfl) dX5_take_5 ?_
  rintro _ M5 ⟨v5, rfl, q5⟩
  obtain ⟨q5, hmm⟩ := q5
  rw [hmm]
  rcases q5 with ⟨j, hj, rfl, rfl⟩ | ⟨q5, rfl⟩
  · skip
    show zJ E x 8 _ [.int (nI 1)] _
    refine z_if_ne_n (tgt := 13) hx (by decide) dX5_take_8 (by decide) (fun _ => ?_) (fun h => absurd h (by decide))
    refine z_aload_n hx 0 dX5_take_13 rfl rfl ?_
    refine zg_X5_3 hx zw_177 dX5_take_14 ?_
    refine z_aload_n hx 0 dX5_take_17 rfl rfl ?_
    refine zg_X5_1 hx zw_175 dX5_take_18 ?_
    refine z_callV hx (As := [.ref (E.2.2.2 46)]) (st := []) (kc_remember hI M hH hA) zw_298 zy_X0_remember ⟨rfl, rfl⟩ (by decide) (zOB_X0 E) rfl rfl rfl rfl (Nat.le_of_ble_eq_true rfl) dX5_take_21 ?_
    rintro _ M21 ⟨rfl, q21⟩
    show zJ E x 24 _ [] _
    have hR1 : zRm M21 46 w n mm cd rd := zRm_fr hR q21.2 (by omega) (by omega) (by omega)
    refine z_aload_n hx 0 dX5_take_24 rfl rfl ?_
    refine zg_X5_1 hx zw_175 dX5_take_25 ?_
    refine z_iload_n hx 1 dX5_take_28 rfl rfl ?_
    refine z_callV hx (As := [.int (nI j)]) (st := []) (k_X3_remove hI M21 zRoom_46 hR1.2.2.2.2.1 hn8 hj) zw_317 zy_X3_remove ⟨rfl, rfl⟩ (by decide) (zOB_room zRoom_46 E) rfl rfl rfl rfl (Nat.le_of_ble_eq_true rfl) dX5_take_29 ?_
    rintro _ M29 ⟨rfl, q29⟩
    subst q29
    show zJ E x 32 _ [] _
    refine z_aload_n hx 0 dX5_take_32 rfl rfl ?_
    refine zg_X5_1 hx zw_175 dX5_take_33 ?_
    refine zg_X3_2 hx zRoom_46 zw_86 dX5_take_36 ?_
    refine z_eqi (b := nI (n - 1)) zhtI ?_
    exact ri _ _ _ _ rfl ⟨_, rfl, (by
        rw [zop_take, if_neg (zin_n hj hn8), nI_clamp (by omega)]
        exact ⟨rfl, zCs_act hσ2 q21.1 q21.2 (zfr_tr (zfr_tr (zfr_setI (by omega)) (zfr_setI (by omega))) (zfr_putI (by omega))) (zRm_remove hR1 hj) rfl⟩)⟩ dX5_take_39
  · skip
    show zJ E x 8 _ [.int (nI 0)] _
    refine z_if_ne_n (tgt := 13) hx (by decide) dX5_take_8 (by decide) (fun h => absurd h (by decide)) (fun _ => ?_)
    refine z_iconst hx (v := (-1)) dX5_take_11 rfl ?_
    exact ri _ _ _ _ rfl ⟨_, rfl, (by rw [zop_take, if_pos q5]; exact ⟨rfl, hσ2, zfr_rf _ _⟩)⟩ dX5_take_12
def zop_swap (σ : zSt) (t u : Int32) : Int32 × zSt := if (t < 0 ∨ nI σ.2.2.1.2.1 ≤ t) ∨ (u < 0 ∨ nI σ.2.2.1.2.1 ≤ u) then (-1, σ) else if t = u then (-3, σ) else (nI (zexch σ.2.2.1.2.2.2.1 t.toNatClampNeg u.toNatClampNeg t.toNatClampNeg), zact σ (σ.2.2.1.1, σ.2.2.1.2.1, σ.2.2.1.2.2.1, zexch σ.2.2.1.2.2.2.1 t.toNatClampNeg u.toNatClampNeg, zexch σ.2.2.1.2.2.2.2 t.toNatClampNeg u.toNatClampNeg))
set_option maxHeartbeats 4000000 in
set_option maxRecDepth 100000 in
theorem k_X5_swap {E : zE} (hI : zI E) (M : zM) {σ : zSt} (hσ : zCs M σ) (t u : Int32) : zK E yX5_swap (.code yX5_swap cX5_swap 3 (some .int)) (zrm 3 68) [.ref (E.2.2.2 0), .int t, .int u] M (zpi (fun v M2 => v = (zop_swap σ t u).1 ∧ zCs M2 (zop_swap σ t u).2 ∧ zfC M M2)) := by
  refine zK_of hI (by decide) (Nat.le_of_ble_eq_true rfl) (fun x hx ri rz rl rv => ?_)
  show zJ E x 0 [(0, .ref (E.2.2.2 0)), (1, .int t), (2, .int u)] [] M
  obtain ⟨tx, len, ⟨w, n, mm, cd, rd⟩, as, s, sl, sd⟩ := σ
  have hσ2 := hσ
  obtain ⟨hT, hH, hA, hS, hD, hO⟩ := hσ
  have hR : zRm M 46 w n mm cd rd := hH
  have hTx : zTx M tx len := hT
  have hn8 := hR.2.2.2.2.2.1
  have hw4 := hR.2.1
  have hlen := hTx.2.1
  have hsd : M.2 0 8 = sd := hD
  obtain ⟨o, ho14, ho, hs, hs14, has⟩ := id hA
  have hs : M.1 4 2 = nI s := hs
  have hs14 : s ≤ 14 := hs14
  refine z_aload_n hx 0 dX5_swap_0 rfl rfl ?_
  refine zg_X5_1 hx zw_175 dX5_swap_1 ?_
  refine z_iload_n hx 1 dX5_swap_4 rfl rfl ?_
  refine z_callV hx (As := [.int t]) (st := []) (k_X3_has hI M zRoom_46 hR.2.2.2.2.1 hn8 t) zw_280 zy_X3_has ⟨rfl, rfl⟩ (by decide) (zOB_room zRoom_46 E) rfl rfl rfl rfl (Nat.le_of_ble_eq_true rfl) dX5_swap_5 ?_
  rintro _ M5 ⟨v5, rfl, q5⟩
  obtain ⟨q5, hmm⟩ := q5
  rw [hmm]
  rcases q5 with ⟨i, hi, rfl, rfl⟩ | ⟨q5, rfl⟩
  · skip
    show zJ E x 8 _ [.int (nI 1)] _
    refine z_if_eq_n (tgt := 22) hx (by decide) dX5_swap_8 (by decide) (fun h => absurd h (by decide)) (fun _ => ?_)
    refine z_aload_n hx 0 dX5_swap_11 rfl rfl ?_
    refine zg_X5_1 hx zw_175 dX5_swap_12 ?_
    refine z_iload_n hx 2 dX5_swap_15 rfl rfl ?_
    refine z_callV hx (As := [.int u]) (st := []) (k_X3_has hI M zRoom_46 hR.2.2.2.2.1 hn8 u) zw_280 zy_X3_has ⟨rfl, rfl⟩ (by decide) (zOB_room zRoom_46 E) rfl rfl rfl rfl (Nat.le_of_ble_eq_true rfl) dX5_swap_16 ?_
    rintro _ M16 ⟨v16, rfl, q16⟩
    obtain ⟨q16, hmm⟩ := q16
    rw [hmm]
    rcases q16 with ⟨j, hj, rfl, rfl⟩ | ⟨q16, rfl⟩
    · skip
      show zJ E x 19 _ [.int (nI 1)] _
      refine z_if_ne_n (tgt := 24) hx (by decide) dX5_swap_19 (by decide) (fun _ => ?_) (fun h => absurd h (by decide))
      refine z_iload_n hx 1 dX5_swap_24 rfl rfl ?_
      refine z_iload_n hx 2 dX5_swap_25 rfl rfl ?_
      refine z_icmp_ne_n (tgt := 32) hx (by omega) (by omega) dX5_swap_26 (by decide) (fun h26 => ?_) (fun h26 => ?_)
      · skip
        refine z_aload_n hx 0 dX5_swap_32 rfl rfl ?_
        refine zg_X5_3 hx zw_177 dX5_swap_33 ?_
        refine z_aload_n hx 0 dX5_swap_36 rfl rfl ?_
        refine zg_X5_1 hx zw_175 dX5_swap_37 ?_
        refine z_callV hx (As := [.ref (E.2.2.2 46)]) (st := []) (kc_remember hI M hH hA) zw_298 zy_X0_remember ⟨rfl, rfl⟩ (by decide) (zOB_X0 E) rfl rfl rfl rfl (Nat.le_of_ble_eq_true rfl) dX5_swap_40 ?_
        rintro _ M40 ⟨rfl, q40⟩
        show zJ E x 43 _ [] _
        have hR1 : zRm M40 46 w n mm cd rd := zRm_fr hR q40.2 (by omega) (by omega) (by omega)
        refine z_aload_n hx 0 dX5_swap_43 rfl rfl ?_
        refine zg_X5_1 hx zw_175 dX5_swap_44 ?_
        refine z_iload_n hx 1 dX5_swap_47 rfl rfl ?_
        refine z_iload_n hx 2 dX5_swap_48 rfl rfl ?_
        refine z_callV hx (As := [.int (nI i), .int (nI j)]) (st := []) (k_X3_exchange hI M40 zRoom_46 (i := i) (j := j) (by omega) (by omega) h26) zw_325 zy_X3_exchange ⟨rfl, rfl⟩ (by decide) (zOB_room zRoom_46 E) rfl rfl rfl rfl (Nat.le_of_ble_eq_true rfl) dX5_swap_49 ?_
        rintro _ M49 ⟨rfl, q49⟩
        subst q49
        show zJ E x 52 _ [] _
        refine z_aload_n hx 0 dX5_swap_52 rfl rfl ?_
        refine zg_X5_1 hx zw_175 dX5_swap_53 ?_
        refine zg_X3_3 hx zRoom_46 zw_89 dX5_swap_56 ?_
        refine z_iload_n hx 1 dX5_swap_59 rfl rfl ?_
        refine z_iald_n hx (zIA_codes zRoom_46 E) (by omega) dX5_swap_60 ?_
        exact ri _ _ _ _ rfl ⟨_, rfl, (by
            rw [zop_swap, if_neg (by rintro (z | z); exact zin_n hi hn8 z; exact zin_n hj hn8 z), if_neg (fun z => h26 ((nI_eq (by omega) (by omega)).mp z)), nI_clamp (by omega), nI_clamp (by omega)]
            refine ⟨?_, zCs_act hσ2 q40.1 q40.2 (zfr_tr (zfr_tr (zfr_tr (zfr_putI (by omega)) (zfr_putI (by omega))) (zfr_putI (by omega))) (zfr_putI (by omega))) (zRm_exch hR1 hi hj h26) rfl⟩
            exact ((zRm_exch hR1 hi hj h26).2.2.2.2.2.2 i hi).1)⟩ dX5_swap_61
      · skip
        refine z_bipush hx (v := (-3)) dX5_swap_29 rfl ?_
        exact ri _ _ _ _ rfl ⟨_, rfl, (by rw [zop_swap, if_neg (by rintro (z | z); exact zin_n hi hn8 z; exact zin_n hj hn8 z), if_pos (by rw [h26])]; exact ⟨rfl, hσ2, zfr_rf _ _⟩)⟩ dX5_swap_31
    · skip
      show zJ E x 19 _ [.int (nI 0)] _
      refine z_if_ne_n (tgt := 24) hx (by decide) dX5_swap_19 (by decide) (fun h => absurd h (by decide)) (fun _ => ?_)
      refine z_iconst hx (v := (-1)) dX5_swap_22 rfl ?_
      exact ri _ _ _ _ rfl ⟨_, rfl, (by rw [zop_swap, if_pos (by first | exact Or.inl q5 | exact Or.inr q16)]; exact ⟨rfl, hσ2, zfr_rf _ _⟩)⟩ dX5_swap_23
  · skip
    show zJ E x 8 _ [.int (nI 0)] _
    refine z_if_eq_n (tgt := 22) hx (by decide) dX5_swap_8 (by decide) (fun _ => ?_) (fun h => absurd h (by decide))
    refine z_iconst hx (v := (-1)) dX5_swap_22 rfl ?_
    exact ri _ _ _ _ rfl ⟨_, rfl, (by rw [zop_swap, if_pos (by first | exact Or.inl q5 | exact Or.inr q16)]; exact ⟨rfl, hσ2, zfr_rf _ _⟩)⟩ dX5_swap_23
def zop_read (σ : zSt) (t z : Int32) : Int32 × zSt := if t < 0 ∨ nI σ.2.2.1.2.1 ≤ t then (-1, σ) else if zisR z then (Int32.ofInt (σ.2.2.1.2.2.2.2 t.toNatClampNeg) + nI 1000, zact σ (σ.2.2.1.1, σ.2.2.1.2.1, σ.2.2.1.2.2.1, σ.2.2.1.2.2.2.1, va_up σ.2.2.1.2.2.2.2 t.toNatClampNeg z.toInt)) else (-2, σ)
set_option maxHeartbeats 4000000 in
set_option maxRecDepth 100000 in
theorem k_X5_read {E : zE} (hI : zI E) (M : zM) {σ : zSt} (hσ : zCs M σ) (t z : Int32) : zK E yX5_read (.code yX5_read cX5_read 4 (some .int)) (zrm 3 68) [.ref (E.2.2.2 0), .int t, .int z] M (zpi (fun v M2 => v = (zop_read σ t z).1 ∧ zCs M2 (zop_read σ t z).2 ∧ zfC M M2)) := by
  refine zK_of hI (by decide) (Nat.le_of_ble_eq_true rfl) (fun x hx ri rz rl rv => ?_)
  show zJ E x 0 [(0, .ref (E.2.2.2 0)), (1, .int t), (2, .int z)] [] M
  obtain ⟨tx, len, ⟨w, n, mm, cd, rd⟩, as, s, sl, sd⟩ := σ
  have hσ2 := hσ
  obtain ⟨hT, hH, hA, hS, hD, hO⟩ := hσ
  have hR : zRm M 46 w n mm cd rd := hH
  have hTx : zTx M tx len := hT
  have hn8 := hR.2.2.2.2.2.1
  have hw4 := hR.2.1
  have hlen := hTx.2.1
  have hsd : M.2 0 8 = sd := hD
  obtain ⟨o, ho14, ho, hs, hs14, has⟩ := id hA
  have hs : M.1 4 2 = nI s := hs
  have hs14 : s ≤ 14 := hs14
  refine z_aload_n hx 0 dX5_read_0 rfl rfl ?_
  refine zg_X5_1 hx zw_175 dX5_read_1 ?_
  refine z_iload_n hx 1 dX5_read_4 rfl rfl ?_
  refine z_callV hx (As := [.int t]) (st := []) (k_X3_has hI M zRoom_46 hR.2.2.2.2.1 hn8 t) zw_280 zy_X3_has ⟨rfl, rfl⟩ (by decide) (zOB_room zRoom_46 E) rfl rfl rfl rfl (Nat.le_of_ble_eq_true rfl) dX5_read_5 ?_
  rintro _ M5 ⟨v5, rfl, q5⟩
  obtain ⟨q5, hmm⟩ := q5
  rw [hmm]
  rcases q5 with ⟨j, hj, rfl, rfl⟩ | ⟨q5, rfl⟩
  · skip
    show zJ E x 8 _ [.int (nI 1)] _
    refine z_if_ne_n (tgt := 13) hx (by decide) dX5_read_8 (by decide) (fun _ => ?_) (fun h => absurd h (by decide))
    refine z_iload_n hx 2 dX5_read_13 rfl rfl ?_
    refine z_callS hx (As := [.int z]) (st := []) (k_X5_isReading hI M z) zw_295 zy_X5_isReading ⟨rfl, rfl⟩ (by decide) rfl rfl (Nat.le_of_ble_eq_true rfl) dX5_read_14 ?_
    rintro _ M14 ⟨v14, rfl, q14⟩
    obtain ⟨q14, hmm⟩ := q14
    rw [hmm]
    rcases q14 with ⟨q14, rfl⟩ | ⟨q14, rfl⟩
    · skip
      show zJ E x 17 _ [.int (nI 1)] _
      refine z_if_ne_n (tgt := 23) hx (by decide) dX5_read_17 (by decide) (fun _ => ?_) (fun h => absurd h (by decide))
      refine z_aload_n hx 0 dX5_read_23 rfl rfl ?_
      refine zg_X5_3 hx zw_177 dX5_read_24 ?_
      refine z_aload_n hx 0 dX5_read_27 rfl rfl ?_
      refine zg_X5_1 hx zw_175 dX5_read_28 ?_
      refine z_callV hx (As := [.ref (E.2.2.2 46)]) (st := []) (kc_remember hI M hH hA) zw_298 zy_X0_remember ⟨rfl, rfl⟩ (by decide) (zOB_X0 E) rfl rfl rfl rfl (Nat.le_of_ble_eq_true rfl) dX5_read_31 ?_
      rintro _ M31 ⟨rfl, q31⟩
      show zJ E x 34 _ [] _
      have hR1 : zRm M31 46 w n mm cd rd := zRm_fr hR q31.2 (by omega) (by omega) (by omega)
      refine z_aload_n hx 0 dX5_read_34 rfl rfl ?_
      refine zg_X5_1 hx zw_175 dX5_read_35 ?_
      refine zg_X3_4 hx zRoom_46 zw_91 dX5_read_38 ?_
      refine z_iload_n hx 1 dX5_read_41 rfl rfl ?_
      refine z_iald_n hx (zIA_reads zRoom_46 E) (by omega) dX5_read_42 ?_
      refine z_eqi (b := Int32.ofInt (rd j)) (hR1.2.2.2.2.2.2 j (by omega)).2.2.2.1 ?_
      refine z_istore_n hx (lv2 := [(3, .int (Int32.ofInt (rd j))), (0, .ref (E.2.2.2 0)), (1, .int (nI j)), (2, .int z)]) dX5_read_43 rfl (by decide) rfl ?_
      refine z_aload_n hx 1 dX5_read_44 rfl rfl ?_
      refine zg_X5_1 hx zw_175 dX5_read_45 ?_
      refine zg_X3_4 hx zRoom_46 zw_91 dX5_read_48 ?_
      refine z_iload_n hx 2 dX5_read_51 rfl rfl ?_
      refine z_iload_n hx 3 dX5_read_52 rfl rfl ?_
      refine z_iast_n hx (zIA_reads zRoom_46 E) (by omega) dX5_read_53 ?_
      refine z_iload_n hx 0 dX5_read_54 rfl rfl ?_
      refine z_sipush hx (v := nI 1000) dX5_read_55 (by decide +kernel) ?_
      refine z_iadd hx dX5_read_58 ?_
      exact ri _ _ _ _ rfl ⟨_, rfl, (by
          rw [zop_read, if_neg (zin_n hj hn8), if_pos q14, nI_clamp (by omega)]
          have hz := zisR_in q14
          have hap := zRm_read (j := j) (z := z.toInt) hR1 hz.1 hz.2
          rw [Int32.ofInt_toInt] at hap
          exact ⟨rfl, zCs_act hσ2 q31.1 q31.2 (zfr_putI (by omega)) hap rfl⟩)⟩ dX5_read_59
    · skip
      show zJ E x 17 _ [.int (nI 0)] _
      refine z_if_ne_n (tgt := 23) hx (by decide) dX5_read_17 (by decide) (fun h => absurd h (by decide)) (fun _ => ?_)
      refine z_bipush hx (v := (-2)) dX5_read_20 rfl ?_
      exact ri _ _ _ _ rfl ⟨_, rfl, (by rw [zop_read, if_neg (zin_n hj hn8), if_neg (by rw [q14]; decide)]; exact ⟨rfl, hσ2, zfr_rf _ _⟩)⟩ dX5_read_22
  · skip
    show zJ E x 8 _ [.int (nI 0)] _
    refine z_if_ne_n (tgt := 13) hx (by decide) dX5_read_8 (by decide) (fun h => absurd h (by decide)) (fun _ => ?_)
    refine z_iconst hx (v := (-1)) dX5_read_11 rfl ?_
    exact ri _ _ _ _ rfl ⟨_, rfl, (by rw [zop_read, if_pos q5]; exact ⟨rfl, hσ2, zfr_rf _ _⟩)⟩ dX5_read_12
def zop_master (σ : zSt) (t : Int32) : Int32 × zSt := if t < 0 ∨ ¬ t ≤ nI 99 then (-2, σ) else (nI σ.2.2.1.2.2.1, zact σ (σ.2.2.1.1, σ.2.2.1.2.1, t.toNatClampNeg, σ.2.2.1.2.2.2.1, σ.2.2.1.2.2.2.2))
set_option maxHeartbeats 4000000 in
set_option maxRecDepth 100000 in
theorem k_X5_master {E : zE} (hI : zI E) (M : zM) {σ : zSt} (hσ : zCs M σ) (t : Int32) : zK E yX5_master (.code yX5_master cX5_master 3 (some .int)) (zrm 3 68) [.ref (E.2.2.2 0), .int t] M (zpi (fun v M2 => v = (zop_master σ t).1 ∧ zCs M2 (zop_master σ t).2 ∧ zfC M M2)) := by
  refine zK_of hI (by decide) (Nat.le_of_ble_eq_true rfl) (fun x hx ri rz rl rv => ?_)
  show zJ E x 0 [(0, .ref (E.2.2.2 0)), (1, .int t)] [] M
  obtain ⟨tx, len, ⟨w, n, mm, cd, rd⟩, as, s, sl, sd⟩ := σ
  have hσ2 := hσ
  obtain ⟨hT, hH, hA, hS, hD, hO⟩ := hσ
  have hR : zRm M 46 w n mm cd rd := hH
  have hTx : zTx M tx len := hT
  have hn8 := hR.2.2.2.2.2.1
  have hw4 := hR.2.1
  have hlen := hTx.2.1
  have hsd : M.2 0 8 = sd := hD
  obtain ⟨o, ho14, ho, hs, hs14, has⟩ := id hA
  have hs : M.1 4 2 = nI s := hs
  have hs14 : s ≤ 14 := hs14
  refine z_iload_n hx 1 dX5_master_0 rfl rfl ?_
  refine z_if_lt (tgt := 10) hx dX5_master_1 (by decide) (fun h1 => ?_) (fun h1 => ?_)
  · skip
    refine z_bipush hx (v := (-2)) dX5_master_10 rfl ?_
    exact ri _ _ _ _ rfl ⟨_, rfl, (by rw [zop_master, if_pos (by first | exact Or.inl h1 | exact Or.inr h7)]; exact ⟨rfl, hσ2, zfr_rf _ _⟩)⟩ dX5_master_12
  · skip
    refine z_iload_n hx 1 dX5_master_4 rfl rfl ?_
    refine z_bipush hx (v := nI 99) dX5_master_5 (by decide +kernel) ?_
    refine z_icmp_le (tgt := 13) hx dX5_master_7 (by decide) (fun h7 => ?_) (fun h7 => ?_)
    · skip
      obtain ⟨j, hj, rfl⟩ := zle_nI (by decide) h1 h7
      refine z_aload_n hx 0 dX5_master_13 rfl rfl ?_
      refine zg_X5_3 hx zw_177 dX5_master_14 ?_
      refine z_aload_n hx 0 dX5_master_17 rfl rfl ?_
      refine zg_X5_1 hx zw_175 dX5_master_18 ?_
      refine z_callV hx (As := [.ref (E.2.2.2 46)]) (st := []) (kc_remember hI M hH hA) zw_298 zy_X0_remember ⟨rfl, rfl⟩ (by decide) (zOB_X0 E) rfl rfl rfl rfl (Nat.le_of_ble_eq_true rfl) dX5_master_21 ?_
      rintro _ M21 ⟨rfl, q21⟩
      show zJ E x 24 _ [] _
      have hR1 : zRm M21 46 w n mm cd rd := zRm_fr hR q21.2 (by omega) (by omega) (by omega)
      refine z_aload_n hx 0 dX5_master_24 rfl rfl ?_
      refine zg_X5_1 hx zw_175 dX5_master_25 ?_
      refine zg_X3_1 hx zRoom_46 zw_83 dX5_master_28 ?_
      refine z_eqi (b := nI mm) hR1.2.2.1 ?_
      refine z_istore_n hx (lv2 := [(2, .int (nI mm)), (0, .ref (E.2.2.2 0)), (1, .int (nI j))]) dX5_master_31 rfl (by decide) rfl ?_
      refine z_aload_n hx 1 dX5_master_32 rfl rfl ?_
      refine zg_X5_1 hx zw_175 dX5_master_33 ?_
      refine z_iload_n hx 2 dX5_master_36 rfl rfl ?_
      refine zp_X3_1 hx zRoom_46 zw_83 dX5_master_37 ?_
      refine z_iload_n hx 0 dX5_master_40 rfl rfl ?_
      exact ri _ _ _ _ rfl ⟨_, rfl, (by
          rw [zop_master, if_neg (by rintro (z | z); exact h1 z; exact z h7), nI_clamp (by omega)]
          exact ⟨rfl, zCs_act hσ2 q21.1 q21.2 (zfr_putI (by omega)) (zRm_master hR1 hj) rfl⟩)⟩ dX5_master_41
    · skip
      refine z_bipush hx (v := (-2)) dX5_master_10 rfl ?_
      exact ri _ _ _ _ rfl ⟨_, rfl, (by rw [zop_master, if_pos (by first | exact Or.inl h1 | exact Or.inr h7)]; exact ⟨rfl, hσ2, zfr_rf _ _⟩)⟩ dX5_master_12
