def zGm (r : zRo) (d : Bool) (S : Nat → Bool) (p q : Nat) : Int := zGr r.1 r.2.2.1 d r.2.2.2.1 r.2.2.2.2 r.2.1 S p q
def zVr (r : zRo) : Prop := (1 ≤ r.1 ∧ r.1 ≤ 4) ∧ r.2.2.1 ≤ 99 ∧ r.2.1 ≤ 8 ∧ ∀ t, t < r.2.1 → zcode r.1 (r.2.2.2.1 t) ∧ -1000 ≤ r.2.2.2.2 t ∧ r.2.2.2.2 t ≤ 1000
theorem zHr_v {M : zM} {a : Nat} {r : zRo} (h : zHr M a r) : zVr r := ⟨h.2.1, h.2.2.2.1, h.2.2.2.2.2.1, fun t ht => ⟨(h.2.2.2.2.2.2 t ht).2.2.1, (h.2.2.2.2.2.2 t ht).2.2.2.2⟩⟩
def zall : Nat → Bool := fun _ => true
def zbut (t : Nat) : Nat → Bool := fun k => !decide (k = t)
/-- what the theory of the swept table has to give -/
def zTheory : Prop := ∀ (r : zRo) (d : Bool) (S : Nat → Bool), zVr r → ∃ (T : Nat → Nat → Nat → Int) (D : Nat → Int), zTb (zunk r.1 d) (zGm r d S) T D ∧ D (zunk r.1 d) = zdet (zunk r.1 d) (zGm r d S) ∧ 0 ≤ D (zunk r.1 d) ∧ D (zunk r.1 d) ≤ 600000 ∧ (0 < D (zunk r.1 d) → zab (T (zunk r.1 d) (zunk r.1 d) (zunk r.1 d)) 6000000000000 ∧ T (zunk r.1 d) (zunk r.1 d) (zunk r.1 d) = zSq (zGm r d S) (zunk r.1 d) ∧ ∀ i, i < zunk r.1 d → T (zunk r.1 d) i (zunk r.1 d) = zVal (zGm r d S) (zunk r.1 d) i ∧ zab (T (zunk r.1 d) i (zunk r.1 d)) 1000000000000 ∧ T (zunk r.1 d) i i = -zMin (zGm r d S) (zunk r.1 d) i ∧ zab (T (zunk r.1 d) i i) 1000000)
theorem zCs_scr {M N : zM} {σ : zSt} (h : zCs M σ) (hf : zfr (fun c => 5 ≤ c ∧ c ≤ 31 ∨ 49 ≤ c ∧ c ≤ 51) M N) : zCs N σ ∧ zfC M N := by
  obtain ⟨hT, hH, hA, hS, hD, hO⟩ := h
  exact ⟨⟨zTx_fr hT hf (by omega) (by omega), zHr_fr hH hf (by omega) (by omega) (by omega), zAc_fr hA hf (by omega) (fun c z1 z2 => by omega), zSl_fr hS hf (by omega) (fun c z1 z2 => by omega), by rw [(hf 0 (by omega)).2]; exact hD, hO⟩, zfr_w hf (fun c h => by omega)⟩
theorem zlN_pos {z : Int} (h : 0 ≤ z) : Int64.ofInt z = lN z.natAbs := by
  rw [zlN_ofInt]
  congr 1
  omega
def zop_value (r : zRo) (t : Int32) (d up : Bool) : Int64 := if t < 0 ∨ nI (zunk r.1 d) ≤ t then -1 else if zdet (zunk r.1 d) (zGm r d zall) = 0 then -3 else Int64.ofInt (zTold (zVal (zGm r d zall) (zunk r.1 d) t.toNatClampNeg) (zdet (zunk r.1 d) (zGm r d zall)).natAbs up)
def zop_spread (r : zRo) (t : Int32) (d up : Bool) : Int64 := if t < 0 ∨ nI (zunk r.1 d) ≤ t then -1 else if zdet (zunk r.1 d) (zGm r d zall) = 0 then -3 else Int64.ofInt (zTold (zMin (zGm r d zall) (zunk r.1 d) t.toNatClampNeg) (zdet (zunk r.1 d) (zGm r d zall)).natAbs up)
def zop_total (r : zRo) (d up : Bool) : Int64 := if zdet (zunk r.1 d) (zGm r d zall) = 0 then -3 else Int64.ofInt (zTold (zS r.1 (fun k => zMin (zGm r d zall) (zunk r.1 d) k)) (zdet (zunk r.1 d) (zGm r d zall)).natAbs up)
def zop_rest (r : zRo) (t : Int32) (d up : Bool) : Int64 := if t < 0 ∨ nI r.2.1 ≤ t then -1 else if zdet (zunk r.1 d) (zGm r d zall) = 0 then -3 else Int64.ofInt (zTold (zLn r.1 r.2.2.1 d (r.2.2.2.1 t.toNatClampNeg) (r.2.2.2.2 t.toNatClampNeg) t.toNatClampNeg (zunk r.1 d) * zdet (zunk r.1 d) (zGm r d zall) - zS (zunk r.1 d) (fun k => zLn r.1 r.2.2.1 d (r.2.2.2.1 t.toNatClampNeg) (r.2.2.2.2 t.toNatClampNeg) t.toNatClampNeg k * zVal (zGm r d zall) (zunk r.1 d) k)) (zdet (zunk r.1 d) (zGm r d zall)).natAbs up)
def zop_squares (r : zRo) (d up : Bool) : Int64 := if zdet (zunk r.1 d) (zGm r d zall) = 0 then -3 else Int64.ofInt (zTold (zSq (zGm r d zall) (zunk r.1 d)) (zdet (zunk r.1 d) (zGm r d zall)).natAbs up)
theorem zab_rg {z b : Int} (h : zab z b) (hb : b ≤ 4000000000000000000) : zrg z := by
  unfold zab at h
  unfold zrg
  omega
theorem zS_ab {f : Nat → Int} {b : Int} (hb : 0 ≤ b) : ∀ {n : Nat}, (∀ k, k < n → zab (f k) b) → zab (zS n f) (n * b)
  | 0, _ => by simp [zS, zab]
  | n + 1, h => by
    have h1 := zS_ab hb (fun k hk => h k (Nat.lt_succ_of_lt hk))
    have h2 := h n (Nat.lt_succ_self n)
    have e : ((n + 1 : Nat) : Int) * b = n * b + b := by rw [Int.natCast_add, Int.add_mul]; simp
    rw [zS, e]
    unfold zab at *
    omega
theorem zab_mul2 {x y a b : Int} (ha : 0 ≤ a) (hb : 0 ≤ b) (hx : zab x a) (hy : zab y b) : zab (x * y) (a * b) := by
  have h1 : x.natAbs ≤ a.natAbs := by have := hx.1; have := hx.2; omega
  have h2 : y.natAbs ≤ b.natAbs := by have := hy.1; have := hy.2; omega
  have h3 : (x * y).natAbs ≤ a.natAbs * b.natAbs := by rw [Int.natAbs_mul]; exact Nat.mul_le_mul h1 h2
  have h4 : (a * b).natAbs = a.natAbs * b.natAbs := Int.natAbs_mul a b
  have h5 : 0 ≤ a * b := Int.mul_nonneg ha hb
  unfold zab
  omega
theorem zLn_y {w mm : Nat} {d : Bool} {c : Nat} {r : Int} {t : Nat} (hc : zcode w c) (h1 : -1000 ≤ r) (h2 : r ≤ 1000) (hm : mm ≤ 99) : zab (zLn w mm d c r t (zunk w d)) 1099 := by
  unfold zLn
  rw [if_neg (by unfold zunk; split <;> omega), if_neg (by unfold zunk; rintro ⟨rfl, z⟩; simp at z)]
  have hd : c / 10 ^ w ≤ 2 := by
    have h := hc.2 w (Nat.le_refl _)
    have h2 : c / 10 ^ w < 10 := by
      have := hc.1
      rw [Nat.pow_succ, Nat.mul_comm] at this
      exact Nat.div_lt_of_lt_mul (by rw [Nat.mul_comm]; exact this)
    omega
  have hs : zsgd (c / 10 ^ w) = -1 ∨ zsgd (c / 10 ^ w) = 0 ∨ zsgd (c / 10 ^ w) = 1 := by
    generalize c / 10 ^ w = q at hd
    unfold zsgd
    rcases (show q = 0 ∨ q = 1 ∨ q = 2 by omega) with rfl | rfl | rfl <;> simp
  unfold zab
  rcases hs with h | h | h <;> rw [h] <;> omega
theorem zin_u {j u : Nat} (h : j < u) (h8 : u ≤ 5) : ¬ (nI j < 0 ∨ nI u ≤ nI j) := by
  rintro (z | z)
  · exact nI_pos (by omega) z
  · exact nI_ge h (by omega) z
set_option maxHeartbeats 4000000 in
set_option maxRecDepth 100000 in
theorem k_X5_value {E : zE} (hI : zI E) (M : zM) {σ : zSt} (hσ : zCs M σ) (hth : zTheory) (t : Int32) (d up : Bool) : zK E yX5_value (.code yX5_value cX5_value 4 (some .long)) (zrm 5 119) [.ref (E.2.2.2 0), .int t, .int (zdr d), .int (zdr up)] M (zpl (fun v M2 => v = zop_value σ.2.2.1 t d up ∧ zCs M2 σ ∧ zfC M M2)) := by
  refine zK_of hI (by decide) (Nat.le_of_ble_eq_true rfl) (fun x hx ri rz rl rv => ?_)
  show zJ E x 0 [(0, .ref (E.2.2.2 0)), (1, .int t), (2, .int (zdr d)), (3, .int (zdr up))] [] M
  obtain ⟨tx, len, ⟨w, n, mm, cd, rd⟩, as, s, sl, sd⟩ := σ
  have hσ2 := hσ
  obtain ⟨hT, hH, hA, hS, hD, hO⟩ := hσ
  have hR : zRm M 46 w n mm cd rd := hH
  have hTx : zTx M tx len := hT
  have hn8 := hR.2.2.2.2.2.1
  have hw4 := hR.2.1
  have hlen := hTx.2.1
  have hsd : M.2 0 8 = sd := hD
  obtain ⟨o, ho14, ho, hs, hs14, has⟩ := id hA
  have hs : M.1 4 2 = nI s := hs
  have hs14 : s ≤ 14 := hs14
  obtain ⟨T, D, hTb0, hD1, hD2, hD3, hth5⟩ := hth (w, n, mm, cd, rd) d zall (zHr_v hH)
  have hTb : zTb (zunk w d) (zGr w mm d cd rd n (fun _ => true)) T D := hTb0
  have hD1 : D (zunk w d) = zdet (zunk w d) (zGm (w, n, mm, cd, rd) d zall) := hD1
  have hD2 : 0 ≤ D (zunk w d) := hD2
  have hD3 : D (zunk w d) ≤ 600000 := hD3
  have hu := zunk_le hw4.2 d
  have huw : w ≤ zunk w d := by unfold zunk; split <;> omega
  refine z_aload_n hx 0 dX5_value_0 rfl rfl ?_
  refine zg_X5_1 hx zw_175 dX5_value_1 ?_
  refine z_iload_n hx 1 dX5_value_4 rfl rfl ?_
  refine z_iload_n hx 2 dX5_value_5 rfl rfl ?_
  refine z_callV hx (As := [.int t, .int (zdr d)]) (st := []) (k_X3_hasUnknown hI M zRoom_46 hR.1 hw4.2 t d) zw_376 zy_X3_hasUnknown ⟨rfl, rfl⟩ (by decide) (zOB_room zRoom_46 E) rfl rfl rfl rfl (Nat.le_of_ble_eq_true rfl) dX5_value_6 ?_
  rintro _ M6 ⟨v6, rfl, q6⟩
  obtain ⟨q6, hmm⟩ := q6
  rw [hmm]
  rcases q6 with ⟨j, hj, rfl, rfl⟩ | ⟨q6, rfl⟩
  · skip
    show zJ E x 9 _ [.int (nI 1)] _
    refine z_if_ne_n (tgt := 16) hx (by decide) dX5_value_9 (by decide) (fun _ => ?_) (fun h => absurd h (by decide))
    refine z_aload_n hx 0 dX5_value_16 rfl rfl ?_
    refine zg_X5_6 hx zw_180 dX5_value_17 ?_
    refine z_aload_n hx 0 dX5_value_20 rfl rfl ?_
    refine zg_X5_1 hx zw_175 dX5_value_21 ?_
    refine z_iload_n hx 2 dX5_value_24 rfl rfl ?_
    refine z_callV hx (As := [.ref (E.2.2.2 46), .int (zdr d)]) (st := []) (k_X1_solves hI M (cd := cd) (rd := rd) zRoom_46 hR d hTb) zw_381 zy_X1_solves ⟨rfl, rfl⟩ (by decide) (zOB_X1 E) rfl rfl rfl rfl (Nat.le_of_ble_eq_true rfl) dX5_value_25 ?_
    rintro _ M25 ⟨v25, rfl, q25⟩
    have qf25 := q25.2
    obtain ⟨q25, -⟩ := q25
    rcases q25 with ⟨rfl, q25⟩ | ⟨rfl, q25⟩
    · skip
      show zJ E x 28 _ [.int (nI 1)] _
      have hne : ¬ zdet (zunk w d) (zGm (w, n, mm, cd, rd) d zall) = 0 := by rw [← hD1]; have := q25.1; omega
      have hth2 := hth5 q25.1
      refine z_if_ne_n (tgt := 35) hx (by decide) dX5_value_28 (by decide) (fun _ => ?_) (fun h => absurd h (by decide))
      refine z_aload_n hx 0 dX5_value_35 rfl rfl ?_
      refine zg_X5_6 hx zw_180 dX5_value_36 ?_
      refine z_iload_n hx 1 dX5_value_39 rfl rfl ?_
      refine z_callV hx (As := [.int (nI j)]) (st := []) (k_X1_valueAbove hI M25 (i := j) qf25.2.2.1 hu (by omega) q25.2.2) zw_409 zy_X1_valueAbove ⟨rfl, rfl⟩ (by decide) (zOB_X1 E) rfl rfl rfl rfl (Nat.le_of_ble_eq_true rfl) dX5_value_40 ?_
      rintro _ M40 ⟨v40, rfl, q40⟩
      obtain ⟨rfl, q40⟩ := q40
      rw [q40]
      show zJ E x 43 _ [.long (Int64.ofInt (T (zunk w d) j (zunk w d)))] _
      refine z_aload_n hx 0 dX5_value_43 rfl rfl ?_
      refine zg_X5_6 hx zw_180 dX5_value_44 ?_
      refine zg_X1_6 hx zw_138 dX5_value_47 ?_
      refine z_eql (b := lN (D (zunk w d)).natAbs) ((q25.2.1).trans (zlN_pos hD2)) ?_
      refine z_iload_n hx 3 dX5_value_50 rfl rfl ?_
      refine z_callS hx (As := [.long (Int64.ofInt (T (zunk w d) j (zunk w d))), .long (lN (D (zunk w d)).natAbs), .int (zdr up)]) (st := []) (k_X5_told hI M25 (T (zunk w d) j (zunk w d)) (D (zunk w d)).natAbs up (zab_rg (hth2.2.2 j hj).2.1 (by decide)) (by have := q25.1; omega) (by omega)) zw_413 zy_X5_told ⟨rfl, rfl⟩ (by decide) rfl rfl (Nat.le_of_ble_eq_true rfl) dX5_value_51 ?_
      rintro _ M51 ⟨v51, rfl, q51⟩
      obtain ⟨rfl, q51⟩ := q51
      rw [q51]
      show zJ E x 54 _ [.long (Int64.ofInt (zTold (T (zunk w d) j (zunk w d)) (D (zunk w d)).natAbs up))] _
      exact rl _ _ _ _ rfl ⟨_, rfl, (by
          rw [zop_value, if_neg (zin_u hj hu), if_neg hne]
          dsimp only
          rw [nI_clamp (by omega), ← hD1, ← (hth2.2.2 j hj).1]
          exact ⟨rfl, zCs_scr hσ2 (zfr_w qf25.2.2.2 (fun c h => by omega))⟩)⟩ dX5_value_54
    · skip
      show zJ E x 28 _ [.int (nI 0)] _
      have hze : zdet (zunk w d) (zGm (w, n, mm, cd, rd) d zall) = 0 := by rw [← hD1]; exact q25
      refine z_if_ne_n (tgt := 35) hx (by decide) dX5_value_28 (by decide) (fun h => absurd h (by decide)) (fun _ => ?_)
      refine z_ldc2 hx zw_408 dX5_value_31 ?_
      exact rl _ _ _ _ rfl ⟨_, rfl, (by rw [zop_value, if_neg (zin_u hj hu), if_pos hze]; exact ⟨rfl, zCs_scr hσ2 (zfr_w qf25.2.2.2 (fun c h => by omega))⟩)⟩ dX5_value_34
  · skip
    show zJ E x 9 _ [.int (nI 0)] _
    refine z_if_ne_n (tgt := 16) hx (by decide) dX5_value_9 (by decide) (fun h => absurd h (by decide)) (fun _ => ?_)
    refine z_ldc2 hx zw_380 dX5_value_12 ?_
    exact rl _ _ _ _ rfl ⟨_, rfl, (by rw [zop_value, if_pos q6]; exact ⟨rfl, hσ2, zfr_rf _ _⟩)⟩ dX5_value_15
set_option maxHeartbeats 4000000 in
set_option maxRecDepth 100000 in
theorem k_X5_spread {E : zE} (hI : zI E) (M : zM) {σ : zSt} (hσ : zCs M σ) (hth : zTheory) (t : Int32) (d up : Bool) : zK E yX5_spread (.code yX5_spread cX5_spread 4 (some .long)) (zrm 5 119) [.ref (E.2.2.2 0), .int t, .int (zdr d), .int (zdr up)] M (zpl (fun v M2 => v = zop_spread σ.2.2.1 t d up ∧ zCs M2 σ ∧ zfC M M2)) := by
  refine zK_of hI (by decide) (Nat.le_of_ble_eq_true rfl) (fun x hx ri rz rl rv => ?_)
  show zJ E x 0 [(0, .ref (E.2.2.2 0)), (1, .int t), (2, .int (zdr d)), (3, .int (zdr up))] [] M
  obtain ⟨tx, len, ⟨w, n, mm, cd, rd⟩, as, s, sl, sd⟩ := σ
  have hσ2 := hσ
  obtain ⟨hT, hH, hA, hS, hD, hO⟩ := hσ
  have hR : zRm M 46 w n mm cd rd := hH
  have hTx : zTx M tx len := hT
  have hn8 := hR.2.2.2.2.2.1
  have hw4 := hR.2.1
  have hlen := hTx.2.1
  have hsd : M.2 0 8 = sd := hD
  obtain ⟨o, ho14, ho, hs, hs14, has⟩ := id hA
  have hs : M.1 4 2 = nI s := hs
  have hs14 : s ≤ 14 := hs14
  obtain ⟨T, D, hTb0, hD1, hD2, hD3, hth5⟩ := hth (w, n, mm, cd, rd) d zall (zHr_v hH)
  have hTb : zTb (zunk w d) (zGr w mm d cd rd n (fun _ => true)) T D := hTb0
  have hD1 : D (zunk w d) = zdet (zunk w d) (zGm (w, n, mm, cd, rd) d zall) := hD1
  have hD2 : 0 ≤ D (zunk w d) := hD2
  have hD3 : D (zunk w d) ≤ 600000 := hD3
  have hu := zunk_le hw4.2 d
  have huw : w ≤ zunk w d := by unfold zunk; split <;> omega
  refine z_aload_n hx 0 dX5_spread_0 rfl rfl ?_
  refine zg_X5_1 hx zw_175 dX5_spread_1 ?_
  refine z_iload_n hx 1 dX5_spread_4 rfl rfl ?_
  refine z_iload_n hx 2 dX5_spread_5 rfl rfl ?_
  refine z_callV hx (As := [.int t, .int (zdr d)]) (st := []) (k_X3_hasUnknown hI M zRoom_46 hR.1 hw4.2 t d) zw_376 zy_X3_hasUnknown ⟨rfl, rfl⟩ (by decide) (zOB_room zRoom_46 E) rfl rfl rfl rfl (Nat.le_of_ble_eq_true rfl) dX5_spread_6 ?_
  rintro _ M6 ⟨v6, rfl, q6⟩
  obtain ⟨q6, hmm⟩ := q6
  rw [hmm]
  rcases q6 with ⟨j, hj, rfl, rfl⟩ | ⟨q6, rfl⟩
  · skip
    show zJ E x 9 _ [.int (nI 1)] _
    refine z_if_ne_n (tgt := 16) hx (by decide) dX5_spread_9 (by decide) (fun _ => ?_) (fun h => absurd h (by decide))
    refine z_aload_n hx 0 dX5_spread_16 rfl rfl ?_
    refine zg_X5_6 hx zw_180 dX5_spread_17 ?_
    refine z_aload_n hx 0 dX5_spread_20 rfl rfl ?_
    refine zg_X5_1 hx zw_175 dX5_spread_21 ?_
    refine z_iload_n hx 2 dX5_spread_24 rfl rfl ?_
    refine z_callV hx (As := [.ref (E.2.2.2 46), .int (zdr d)]) (st := []) (k_X1_solves hI M (cd := cd) (rd := rd) zRoom_46 hR d hTb) zw_381 zy_X1_solves ⟨rfl, rfl⟩ (by decide) (zOB_X1 E) rfl rfl rfl rfl (Nat.le_of_ble_eq_true rfl) dX5_spread_25 ?_
    rintro _ M25 ⟨v25, rfl, q25⟩
    have qf25 := q25.2
    obtain ⟨q25, -⟩ := q25
    rcases q25 with ⟨rfl, q25⟩ | ⟨rfl, q25⟩
    · skip
      show zJ E x 28 _ [.int (nI 1)] _
      have hne : ¬ zdet (zunk w d) (zGm (w, n, mm, cd, rd) d zall) = 0 := by rw [← hD1]; have := q25.1; omega
      have hth2 := hth5 q25.1
      refine z_if_ne_n (tgt := 35) hx (by decide) dX5_spread_28 (by decide) (fun _ => ?_) (fun h => absurd h (by decide))
      refine z_aload_n hx 0 dX5_spread_35 rfl rfl ?_
      refine zg_X5_6 hx zw_180 dX5_spread_36 ?_
      refine z_iload_n hx 1 dX5_spread_39 rfl rfl ?_
      refine z_callV hx (As := [.int (nI j)]) (st := []) (k_X1_spreadAbove hI M25 (i := j) hu (by omega) q25.2.2) zw_426 zy_X1_spreadAbove ⟨rfl, rfl⟩ (by decide) (zOB_X1 E) rfl rfl rfl rfl (Nat.le_of_ble_eq_true rfl) dX5_spread_40 ?_
      rintro _ M40 ⟨v40, rfl, q40⟩
      obtain ⟨rfl, q40⟩ := q40
      rw [q40]
      show zJ E x 43 _ [.long (Int64.ofInt (-T (zunk w d) j j))] _
      refine z_aload_n hx 0 dX5_spread_43 rfl rfl ?_
      refine zg_X5_6 hx zw_180 dX5_spread_44 ?_
      refine zg_X1_6 hx zw_138 dX5_spread_47 ?_
      refine z_eql (b := lN (D (zunk w d)).natAbs) ((q25.2.1).trans (zlN_pos hD2)) ?_
      refine z_iload_n hx 3 dX5_spread_50 rfl rfl ?_
      refine z_callS hx (As := [.long (Int64.ofInt (-T (zunk w d) j j)), .long (lN (D (zunk w d)).natAbs), .int (zdr up)]) (st := []) (k_X5_told hI M25 (-T (zunk w d) j j) (D (zunk w d)).natAbs up (by have h : zrg (T (zunk w d) j j) := zab_rg (hth2.2.2 j hj).2.2.2 (by decide); unfold zrg at *; omega) (by have := q25.1; omega) (by omega)) zw_413 zy_X5_told ⟨rfl, rfl⟩ (by decide) rfl rfl (Nat.le_of_ble_eq_true rfl) dX5_spread_51 ?_
      rintro _ M51 ⟨v51, rfl, q51⟩
      obtain ⟨rfl, q51⟩ := q51
      rw [q51]
      show zJ E x 54 _ [.long (Int64.ofInt (zTold (-T (zunk w d) j j) (D (zunk w d)).natAbs up))] _
      exact rl _ _ _ _ rfl ⟨_, rfl, (by
          rw [zop_spread, if_neg (zin_u hj hu), if_neg hne]
          dsimp only
          have e : -T (zunk w d) j j = zMin (zGm (w, n, mm, cd, rd) d zall) (zunk w d) j := by have := (hth2.2.2 j hj).2.2.1; rw [this, Int.neg_neg]
          rw [nI_clamp (by omega), ← hD1, ← e]
          exact ⟨rfl, zCs_scr hσ2 (zfr_w qf25.2.2.2 (fun c h => by omega))⟩)⟩ dX5_spread_54
    · skip
      show zJ E x 28 _ [.int (nI 0)] _
      have hze : zdet (zunk w d) (zGm (w, n, mm, cd, rd) d zall) = 0 := by rw [← hD1]; exact q25
      refine z_if_ne_n (tgt := 35) hx (by decide) dX5_spread_28 (by decide) (fun h => absurd h (by decide)) (fun _ => ?_)
      refine z_ldc2 hx zw_408 dX5_spread_31 ?_
      exact rl _ _ _ _ rfl ⟨_, rfl, (by rw [zop_spread, if_neg (zin_u hj hu), if_pos hze]; exact ⟨rfl, zCs_scr hσ2 (zfr_w qf25.2.2.2 (fun c h => by omega))⟩)⟩ dX5_spread_34
  · skip
    show zJ E x 9 _ [.int (nI 0)] _
    refine z_if_ne_n (tgt := 16) hx (by decide) dX5_spread_9 (by decide) (fun h => absurd h (by decide)) (fun _ => ?_)
    refine z_ldc2 hx zw_380 dX5_spread_12 ?_
    exact rl _ _ _ _ rfl ⟨_, rfl, (by rw [zop_spread, if_pos q6]; exact ⟨rfl, hσ2, zfr_rf _ _⟩)⟩ dX5_spread_15
set_option maxHeartbeats 4000000 in
set_option maxRecDepth 100000 in
theorem k_X5_total {E : zE} (hI : zI E) (M : zM) {σ : zSt} (hσ : zCs M σ) (hth : zTheory) (d up : Bool) : zK E yX5_total (.code yX5_total cX5_total 3 (some .long)) (zrm 5 119) [.ref (E.2.2.2 0), .int (zdr d), .int (zdr up)] M (zpl (fun v M2 => v = zop_total σ.2.2.1 d up ∧ zCs M2 σ ∧ zfC M M2)) := by
  refine zK_of hI (by decide) (Nat.le_of_ble_eq_true rfl) (fun x hx ri rz rl rv => ?_)
  show zJ E x 0 [(0, .ref (E.2.2.2 0)), (1, .int (zdr d)), (2, .int (zdr up))] [] M
  obtain ⟨tx, len, ⟨w, n, mm, cd, rd⟩, as, s, sl, sd⟩ := σ
  have hσ2 := hσ
  obtain ⟨hT, hH, hA, hS, hD, hO⟩ := hσ
  have hR : zRm M 46 w n mm cd rd := hH
  have hTx : zTx M tx len := hT
  have hn8 := hR.2.2.2.2.2.1
  have hw4 := hR.2.1
  have hlen := hTx.2.1
  have hsd : M.2 0 8 = sd := hD
  obtain ⟨o, ho14, ho, hs, hs14, has⟩ := id hA
  have hs : M.1 4 2 = nI s := hs
  have hs14 : s ≤ 14 := hs14
  obtain ⟨T, D, hTb0, hD1, hD2, hD3, hth5⟩ := hth (w, n, mm, cd, rd) d zall (zHr_v hH)
  have hTb : zTb (zunk w d) (zGr w mm d cd rd n (fun _ => true)) T D := hTb0
  have hD1 : D (zunk w d) = zdet (zunk w d) (zGm (w, n, mm, cd, rd) d zall) := hD1
  have hD2 : 0 ≤ D (zunk w d) := hD2
  have hD3 : D (zunk w d) ≤ 600000 := hD3
  have hu := zunk_le hw4.2 d
  have huw : w ≤ zunk w d := by unfold zunk; split <;> omega
  refine z_aload_n hx 0 dX5_total_0 rfl rfl ?_
  refine zg_X5_6 hx zw_180 dX5_total_1 ?_
  refine z_aload_n hx 0 dX5_total_4 rfl rfl ?_
  refine zg_X5_1 hx zw_175 dX5_total_5 ?_
  refine z_iload_n hx 1 dX5_total_8 rfl rfl ?_
  refine z_callV hx (As := [.ref (E.2.2.2 46), .int (zdr d)]) (st := []) (k_X1_solves hI M (cd := cd) (rd := rd) zRoom_46 hR d hTb) zw_381 zy_X1_solves ⟨rfl, rfl⟩ (by decide) (zOB_X1 E) rfl rfl rfl rfl (Nat.le_of_ble_eq_true rfl) dX5_total_9 ?_
  rintro _ M9 ⟨v9, rfl, q9⟩
  have qf9 := q9.2
  obtain ⟨q9, -⟩ := q9
  rcases q9 with ⟨rfl, q9⟩ | ⟨rfl, q9⟩
  · skip
    show zJ E x 12 _ [.int (nI 1)] _
    have hne : ¬ zdet (zunk w d) (zGm (w, n, mm, cd, rd) d zall) = 0 := by rw [← hD1]; have := q9.1; omega
    have hth2 := hth5 q9.1
    refine z_if_ne_n (tgt := 19) hx (by decide) dX5_total_12 (by decide) (fun _ => ?_) (fun h => absurd h (by decide))
    refine z_aload_n hx 0 dX5_total_19 rfl rfl ?_
    refine zg_X5_6 hx zw_180 dX5_total_20 ?_
    refine z_callV hx (As := []) (st := []) (k_X1_totalAbove hI M9 (w := w) qf9.2.1 hu huw q9.2.2) zw_434 zy_X1_totalAbove ⟨rfl, rfl⟩ (by decide) (zOB_X1 E) rfl rfl rfl rfl (Nat.le_of_ble_eq_true rfl) dX5_total_23 ?_
    rintro _ M23 ⟨v23, rfl, q23⟩
    obtain ⟨rfl, q23⟩ := q23
    rw [q23]
    show zJ E x 26 _ [.long (Int64.ofInt (zS w (fun k => -T (zunk w d) k k)))] _
    refine z_aload_n hx 0 dX5_total_26 rfl rfl ?_
    refine zg_X5_6 hx zw_180 dX5_total_27 ?_
    refine zg_X1_6 hx zw_138 dX5_total_30 ?_
    refine z_eql (b := lN (D (zunk w d)).natAbs) ((q9.2.1).trans (zlN_pos hD2)) ?_
    have htot : zrg (zS w (fun k => -T (zunk w d) k k)) := by
      have h := zS_ab (b := 1000000) (by decide) (n := w) (f := fun k => -T (zunk w d) k k) (fun k hk => by have h : zab (T (zunk w d) k k) 1000000 := (hth2.2.2 k (by show k < zunk w d; omega)).2.2.2; unfold zab at *; omega)
      unfold zab at h; unfold zrg; omega
    refine z_iload_n hx 2 dX5_total_33 rfl rfl ?_
    refine z_callS hx (As := [.long (Int64.ofInt (zS w (fun k => -T (zunk w d) k k))), .long (lN (D (zunk w d)).natAbs), .int (zdr up)]) (st := []) (k_X5_told hI M9 (zS w (fun k => -T (zunk w d) k k)) (D (zunk w d)).natAbs up htot (by have := q9.1; omega) (by omega)) zw_413 zy_X5_told ⟨rfl, rfl⟩ (by decide) rfl rfl (Nat.le_of_ble_eq_true rfl) dX5_total_34 ?_
    rintro _ M34 ⟨v34, rfl, q34⟩
    obtain ⟨rfl, q34⟩ := q34
    rw [q34]
    show zJ E x 37 _ [.long (Int64.ofInt (zTold (zS w (fun k => -T (zunk w d) k k)) (D (zunk w d)).natAbs up))] _
    exact rl _ _ _ _ rfl ⟨_, rfl, (by
        rw [zop_total, if_neg hne]
        dsimp only
        have e : zS w (fun k => zMin (zGm (w, n, mm, cd, rd) d zall) (zunk w d) k) = zS w (fun k => -T (zunk w d) k k) := zS_cong (fun k hk => by have := (hth2.2.2 k (by show k < zunk w d; omega)).2.2.1; rw [this, Int.neg_neg])
        rw [← hD1, e]
        exact ⟨rfl, zCs_scr hσ2 (zfr_w qf9.2.2.2 (fun c h => by omega))⟩)⟩ dX5_total_37
  · skip
    show zJ E x 12 _ [.int (nI 0)] _
    have hze : zdet (zunk w d) (zGm (w, n, mm, cd, rd) d zall) = 0 := by rw [← hD1]; exact q9
    refine z_if_ne_n (tgt := 19) hx (by decide) dX5_total_12 (by decide) (fun h => absurd h (by decide)) (fun _ => ?_)
    refine z_ldc2 hx zw_408 dX5_total_15 ?_
    exact rl _ _ _ _ rfl ⟨_, rfl, (by rw [zop_total, if_pos hze]; exact ⟨rfl, zCs_scr hσ2 (zfr_w qf9.2.2.2 (fun c h => by omega))⟩)⟩ dX5_total_18
set_option maxHeartbeats 4000000 in
set_option maxRecDepth 100000 in
theorem k_X5_rest {E : zE} (hI : zI E) (M : zM) {σ : zSt} (hσ : zCs M σ) (hth : zTheory) (t : Int32) (d up : Bool) : zK E yX5_rest (.code yX5_rest cX5_rest 4 (some .long)) (zrm 5 119) [.ref (E.2.2.2 0), .int t, .int (zdr d), .int (zdr up)] M (zpl (fun v M2 => v = zop_rest σ.2.2.1 t d up ∧ zCs M2 σ ∧ zfC M M2)) := by
  refine zK_of hI (by decide) (Nat.le_of_ble_eq_true rfl) (fun x hx ri rz rl rv => ?_)
  show zJ E x 0 [(0, .ref (E.2.2.2 0)), (1, .int t), (2, .int (zdr d)), (3, .int (zdr up))] [] M
  obtain ⟨tx, len, ⟨w, n, mm, cd, rd⟩, as, s, sl, sd⟩ := σ
  have hσ2 := hσ
  obtain ⟨hT, hH, hA, hS, hD, hO⟩ := hσ
  have hR : zRm M 46 w n mm cd rd := hH
  have hTx : zTx M tx len := hT
  have hn8 := hR.2.2.2.2.2.1
  have hw4 := hR.2.1
  have hlen := hTx.2.1
  have hsd : M.2 0 8 = sd := hD
  obtain ⟨o, ho14, ho, hs, hs14, has⟩ := id hA
  have hs : M.1 4 2 = nI s := hs
  have hs14 : s ≤ 14 := hs14
  obtain ⟨T, D, hTb0, hD1, hD2, hD3, hth5⟩ := hth (w, n, mm, cd, rd) d zall (zHr_v hH)
  have hTb : zTb (zunk w d) (zGr w mm d cd rd n (fun _ => true)) T D := hTb0
  have hD1 : D (zunk w d) = zdet (zunk w d) (zGm (w, n, mm, cd, rd) d zall) := hD1
  have hD2 : 0 ≤ D (zunk w d) := hD2
  have hD3 : D (zunk w d) ≤ 600000 := hD3
  have hu := zunk_le hw4.2 d
  have huw : w ≤ zunk w d := by unfold zunk; split <;> omega
  refine z_aload_n hx 0 dX5_rest_0 rfl rfl ?_
  refine zg_X5_1 hx zw_175 dX5_rest_1 ?_
  refine z_iload_n hx 1 dX5_rest_4 rfl rfl ?_
  refine z_callV hx (As := [.int t]) (st := []) (k_X3_has hI M zRoom_46 hR.2.2.2.2.1 hn8 t) zw_280 zy_X3_has ⟨rfl, rfl⟩ (by decide) (zOB_room zRoom_46 E) rfl rfl rfl rfl (Nat.le_of_ble_eq_true rfl) dX5_rest_5 ?_
  rintro _ M5 ⟨v5, rfl, q5⟩
  obtain ⟨q5, hmm⟩ := q5
  rw [hmm]
  rcases q5 with ⟨j, hj, rfl, rfl⟩ | ⟨q5, rfl⟩
  · skip
    show zJ E x 8 _ [.int (nI 1)] _
    refine z_if_ne_n (tgt := 15) hx (by decide) dX5_rest_8 (by decide) (fun _ => ?_) (fun h => absurd h (by decide))
    refine z_aload_n hx 0 dX5_rest_15 rfl rfl ?_
    refine zg_X5_6 hx zw_180 dX5_rest_16 ?_
    refine z_aload_n hx 0 dX5_rest_19 rfl rfl ?_
    refine zg_X5_1 hx zw_175 dX5_rest_20 ?_
    refine z_iload_n hx 2 dX5_rest_23 rfl rfl ?_
    refine z_callV hx (As := [.ref (E.2.2.2 46), .int (zdr d)]) (st := []) (k_X1_solves hI M (cd := cd) (rd := rd) zRoom_46 hR d hTb) zw_381 zy_X1_solves ⟨rfl, rfl⟩ (by decide) (zOB_X1 E) rfl rfl rfl rfl (Nat.le_of_ble_eq_true rfl) dX5_rest_24 ?_
    rintro _ M24 ⟨v24, rfl, q24⟩
    have qf24 := q24.2
    obtain ⟨q24, -⟩ := q24
    rcases q24 with ⟨rfl, q24⟩ | ⟨rfl, q24⟩
    · skip
      show zJ E x 27 _ [.int (nI 1)] _
      have hne : ¬ zdet (zunk w d) (zGm (w, n, mm, cd, rd) d zall) = 0 := by rw [← hD1]; have := q24.1; omega
      have hth2 := hth5 q24.1
      refine z_if_ne_n (tgt := 34) hx (by decide) dX5_rest_27 (by decide) (fun _ => ?_) (fun h => absurd h (by decide))
      refine z_aload_n hx 0 dX5_rest_34 rfl rfl ?_
      refine zg_X5_6 hx zw_180 dX5_rest_35 ?_
      refine z_aload_n hx 0 dX5_rest_38 rfl rfl ?_
      refine zg_X5_1 hx zw_175 dX5_rest_39 ?_
      refine z_iload_n hx 1 dX5_rest_42 rfl rfl ?_
      refine z_callV hx (As := [.ref (E.2.2.2 46), .int (nI j)]) (st := []) (k_X1_restAbove hI M24 (T := T (zunk w d)) (D := D (zunk w d)) zRoom_46 (zRm_fr hR qf24.2.2.2 (by omega) (by omega) (by omega)) hj d qf24.1 qf24.2.2.1 q24.2.1 q24.2.2) zw_443 zy_X1_restAbove ⟨rfl, rfl⟩ (by decide) (zOB_X1 E) rfl rfl rfl rfl (Nat.le_of_ble_eq_true rfl) dX5_rest_43 ?_
      rintro _ M43 ⟨v43, rfl, q43⟩
      obtain ⟨rfl, q43⟩ := q43
      have q43 := And.intro True.intro q43
      show zJ E x 46 _ [.long (Int64.ofInt (zLn w mm d (cd j) (rd j) j (zunk w d) * D (zunk w d) - zS (zunk w d) (fun k => zLn w mm d (cd j) (rd j) j k * T (zunk w d) k (zunk w d))))] _
      refine z_aload_n hx 0 dX5_rest_46 rfl rfl ?_
      refine zg_X5_6 hx zw_180 dX5_rest_47 ?_
      refine zg_X1_6 hx zw_138 dX5_rest_50 ?_
      refine z_eql (b := lN (D (zunk w d)).natAbs) (by rw [(q43.2 7 (by omega)).2]; exact (q24.2.1).trans (zlN_pos hD2)) ?_
      have hrr : zrg (zLn w mm d (cd j) (rd j) j (zunk w d) * D (zunk w d) - zS (zunk w d) (fun k => zLn w mm d (cd j) (rd j) j k * T (zunk w d) k (zunk w d))) := by
        have hv := hR.2.2.2.2.2.2 j hj
        have h1 := zab_mul2 (by decide) (by decide) (zLn_y (d := d) (t := j) hv.2.2.1 hv.2.2.2.2.1 hv.2.2.2.2.2 hR.2.2.2.1) (show zab (D (zunk w d)) 600000 by unfold zab; omega)
        have h2 := zS_ab (b := 7 * 1000000000000) (by decide) (n := zunk w d) (f := fun k => zLn w mm d (cd j) (rd j) j k * T (zunk w d) k (zunk w d)) (fun k hk => zab_mul2 (by decide) (by decide) (zLn_ab hv.2.2.1 (by omega) k hk) (hth2.2.2 k hk).2.1)
        have h3 : ((zunk w d : Nat) : Int) * (7 * 1000000000000) ≤ 5 * (7 * 1000000000000) := by omega
        unfold zab at h1 h2
        unfold zrg
        omega
      refine z_iload_n hx 3 dX5_rest_53 rfl rfl ?_
      refine z_callS hx (As := [.long (Int64.ofInt (zLn w mm d (cd j) (rd j) j (zunk w d) * D (zunk w d) - zS (zunk w d) (fun k => zLn w mm d (cd j) (rd j) j k * T (zunk w d) k (zunk w d)))), .long (lN (D (zunk w d)).natAbs), .int (zdr up)]) (st := []) (k_X5_told hI M43 (zLn w mm d (cd j) (rd j) j (zunk w d) * D (zunk w d) - zS (zunk w d) (fun k => zLn w mm d (cd j) (rd j) j k * T (zunk w d) k (zunk w d))) (D (zunk w d)).natAbs up hrr (by have := q24.1; omega) (by omega)) zw_413 zy_X5_told ⟨rfl, rfl⟩ (by decide) rfl rfl (Nat.le_of_ble_eq_true rfl) dX5_rest_54 ?_
      rintro _ M54 ⟨v54, rfl, q54⟩
      obtain ⟨rfl, q54⟩ := q54
      rw [q54]
      show zJ E x 57 _ [.long (Int64.ofInt (zTold (zLn w mm d (cd j) (rd j) j (zunk w d) * D (zunk w d) - zS (zunk w d) (fun k => zLn w mm d (cd j) (rd j) j k * T (zunk w d) k (zunk w d))) (D (zunk w d)).natAbs up))] _
      exact rl _ _ _ _ rfl ⟨_, rfl, (by
          rw [zop_rest, if_neg (zin_n hj hn8), if_neg hne]
          dsimp only
          have e : zS (zunk w d) (fun k => zLn w mm d (cd j) (rd j) j k * zVal (zGm (w, n, mm, cd, rd) d zall) (zunk w d) k) = zS (zunk w d) (fun k => zLn w mm d (cd j) (rd j) j k * T (zunk w d) k (zunk w d)) := zS_cong (fun k hk => by have := (hth2.2.2 k hk).1; rw [this])
          rw [nI_clamp (by omega), ← hD1, e]
          exact ⟨rfl, zCs_scr hσ2 (zfr_tr (zfr_w qf24.2.2.2 (fun c h => by omega)) (zfr_w q43.2 (fun c h => by omega)))⟩)⟩ dX5_rest_57
    · skip
      show zJ E x 27 _ [.int (nI 0)] _
      have hze : zdet (zunk w d) (zGm (w, n, mm, cd, rd) d zall) = 0 := by rw [← hD1]; exact q24
      refine z_if_ne_n (tgt := 34) hx (by decide) dX5_rest_27 (by decide) (fun h => absurd h (by decide)) (fun _ => ?_)
      refine z_ldc2 hx zw_408 dX5_rest_30 ?_
      exact rl _ _ _ _ rfl ⟨_, rfl, (by rw [zop_rest, if_neg (zin_n hj hn8), if_pos hze]; exact ⟨rfl, zCs_scr hσ2 (zfr_w qf24.2.2.2 (fun c h => by omega))⟩)⟩ dX5_rest_33
  · skip
    show zJ E x 8 _ [.int (nI 0)] _
    refine z_if_ne_n (tgt := 15) hx (by decide) dX5_rest_8 (by decide) (fun h => absurd h (by decide)) (fun _ => ?_)
    refine z_ldc2 hx zw_380 dX5_rest_11 ?_
    exact rl _ _ _ _ rfl ⟨_, rfl, (by rw [zop_rest, if_pos q5]; exact ⟨rfl, hσ2, zfr_rf _ _⟩)⟩ dX5_rest_14
set_option maxHeartbeats 4000000 in
set_option maxRecDepth 100000 in
theorem k_X5_squares {E : zE} (hI : zI E) (M : zM) {σ : zSt} (hσ : zCs M σ) (hth : zTheory) (d up : Bool) : zK E yX5_squares (.code yX5_squares cX5_squares 3 (some .long)) (zrm 5 119) [.ref (E.2.2.2 0), .int (zdr d), .int (zdr up)] M (zpl (fun v M2 => v = zop_squares σ.2.2.1 d up ∧ zCs M2 σ ∧ zfC M M2)) := by
  refine zK_of hI (by decide) (Nat.le_of_ble_eq_true rfl) (fun x hx ri rz rl rv => ?_)
  show zJ E x 0 [(0, .ref (E.2.2.2 0)), (1, .int (zdr d)), (2, .int (zdr up))] [] M
  obtain ⟨tx, len, ⟨w, n, mm, cd, rd⟩, as, s, sl, sd⟩ := σ
  have hσ2 := hσ
  obtain ⟨hT, hH, hA, hS, hD, hO⟩ := hσ
  have hR : zRm M 46 w n mm cd rd := hH
  have hTx : zTx M tx len := hT
  have hn8 := hR.2.2.2.2.2.1
  have hw4 := hR.2.1
  have hlen := hTx.2.1
  have hsd : M.2 0 8 = sd := hD
  obtain ⟨o, ho14, ho, hs, hs14, has⟩ := id hA
  have hs : M.1 4 2 = nI s := hs
  have hs14 : s ≤ 14 := hs14
  obtain ⟨T, D, hTb0, hD1, hD2, hD3, hth5⟩ := hth (w, n, mm, cd, rd) d zall (zHr_v hH)
  have hTb : zTb (zunk w d) (zGr w mm d cd rd n (fun _ => true)) T D := hTb0
  have hD1 : D (zunk w d) = zdet (zunk w d) (zGm (w, n, mm, cd, rd) d zall) := hD1
  have hD2 : 0 ≤ D (zunk w d) := hD2
  have hD3 : D (zunk w d) ≤ 600000 := hD3
  have hu := zunk_le hw4.2 d
  have huw : w ≤ zunk w d := by unfold zunk; split <;> omega
  refine z_aload_n hx 0 dX5_squares_0 rfl rfl ?_
  refine zg_X5_6 hx zw_180 dX5_squares_1 ?_
  refine z_aload_n hx 0 dX5_squares_4 rfl rfl ?_
  refine zg_X5_1 hx zw_175 dX5_squares_5 ?_
  refine z_iload_n hx 1 dX5_squares_8 rfl rfl ?_
  refine z_callV hx (As := [.ref (E.2.2.2 46), .int (zdr d)]) (st := []) (k_X1_solves hI M (cd := cd) (rd := rd) zRoom_46 hR d hTb) zw_381 zy_X1_solves ⟨rfl, rfl⟩ (by decide) (zOB_X1 E) rfl rfl rfl rfl (Nat.le_of_ble_eq_true rfl) dX5_squares_9 ?_
  rintro _ M9 ⟨v9, rfl, q9⟩
  have qf9 := q9.2
  obtain ⟨q9, -⟩ := q9
  rcases q9 with ⟨rfl, q9⟩ | ⟨rfl, q9⟩
  · skip
    show zJ E x 12 _ [.int (nI 1)] _
    have hne : ¬ zdet (zunk w d) (zGm (w, n, mm, cd, rd) d zall) = 0 := by rw [← hD1]; have := q9.1; omega
    have hth2 := hth5 q9.1
    refine z_if_ne_n (tgt := 19) hx (by decide) dX5_squares_12 (by decide) (fun _ => ?_) (fun h => absurd h (by decide))
    refine z_aload_n hx 0 dX5_squares_19 rfl rfl ?_
    refine zg_X5_6 hx zw_180 dX5_squares_20 ?_
    refine z_callV hx (As := []) (st := []) (k_X1_squaresAbove hI M9 qf9.2.2.1 hu (q9.2.2 (zunk w d) (zunk w d) (Nat.le_refl _) (Nat.le_refl _))) zw_452 zy_X1_squaresAbove ⟨rfl, rfl⟩ (by decide) (zOB_X1 E) rfl rfl rfl rfl (Nat.le_of_ble_eq_true rfl) dX5_squares_23 ?_
    rintro _ M23 ⟨v23, rfl, q23⟩
    obtain ⟨rfl, q23⟩ := q23
    rw [q23]
    show zJ E x 26 _ [.long (Int64.ofInt (T (zunk w d) (zunk w d) (zunk w d)))] _
    refine z_aload_n hx 0 dX5_squares_26 rfl rfl ?_
    refine zg_X5_6 hx zw_180 dX5_squares_27 ?_
    refine zg_X1_6 hx zw_138 dX5_squares_30 ?_
    refine z_eql (b := lN (D (zunk w d)).natAbs) ((q9.2.1).trans (zlN_pos hD2)) ?_
    refine z_iload_n hx 2 dX5_squares_33 rfl rfl ?_
    refine z_callS hx (As := [.long (Int64.ofInt (T (zunk w d) (zunk w d) (zunk w d))), .long (lN (D (zunk w d)).natAbs), .int (zdr up)]) (st := []) (k_X5_told hI M9 (T (zunk w d) (zunk w d) (zunk w d)) (D (zunk w d)).natAbs up (zab_rg hth2.1 (by decide)) (by have := q9.1; omega) (by omega)) zw_413 zy_X5_told ⟨rfl, rfl⟩ (by decide) rfl rfl (Nat.le_of_ble_eq_true rfl) dX5_squares_34 ?_
    rintro _ M34 ⟨v34, rfl, q34⟩
    obtain ⟨rfl, q34⟩ := q34
    rw [q34]
    show zJ E x 37 _ [.long (Int64.ofInt (zTold (T (zunk w d) (zunk w d) (zunk w d)) (D (zunk w d)).natAbs up))] _
    exact rl _ _ _ _ rfl ⟨_, rfl, (by
        rw [zop_squares, if_neg hne]
        dsimp only
        have e : T (zunk w d) (zunk w d) (zunk w d) = zSq (zGm (w, n, mm, cd, rd) d zall) (zunk w d) := hth2.2.1
        rw [← hD1, ← e]
        exact ⟨rfl, zCs_scr hσ2 (zfr_w qf9.2.2.2 (fun c h => by omega))⟩)⟩ dX5_squares_37
  · skip
    show zJ E x 12 _ [.int (nI 0)] _
    have hze : zdet (zunk w d) (zGm (w, n, mm, cd, rd) d zall) = 0 := by rw [← hD1]; exact q9
    refine z_if_ne_n (tgt := 19) hx (by decide) dX5_squares_12 (by decide) (fun h => absurd h (by decide)) (fun _ => ?_)
    refine z_ldc2 hx zw_408 dX5_squares_15 ?_
    exact rl _ _ _ _ rfl ⟨_, rfl, (by rw [zop_squares, if_pos hze]; exact ⟨rfl, zCs_scr hσ2 (zfr_w qf9.2.2.2 (fun c h => by omega))⟩)⟩ dX5_squares_18
