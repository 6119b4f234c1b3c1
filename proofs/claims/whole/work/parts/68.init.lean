theorem zr_row : ∀ i, i < 86 → (57 ≤ i ∧ i < 63) ∨ (64 ≤ i ∧ i < 70) ∨ (73 ≤ i ∧ i < 78) → 15 ≤ zin i ∧ zin i < 32 := by decide +kernel
theorem zTg_row {i : Nat} (h : (57 ≤ i ∧ i < 63) ∨ (64 ≤ i ∧ i < 70) ∨ (73 ≤ i ∧ i < 78)) (l : Launch) (D : va_G) (cy : Nat → ClassId) (s0 : Nat) : zTg cy s0 i = .inl (cy 1, 6, .inr (.inl (fun _ => 0))) := by
  obtain ⟨h1, h2⟩ := zr_row i (by omega) h
  have h3 := (zJA_row h1 h2 (zE0 l D cy s0)).2.2 (zM0.1 (zin i)) (zM0.2 (zin i))
  rw [show zM0.2 (zin i) = fun _ => 0 from if_neg (by omega)] at h3
  unfold zTg
  rw [show zM0.2 (zin i) = fun _ => 0 from if_neg (by omega)]
  exact h3
theorem zof_t : (∀ j, j < 6 → zof (15 + 1 * j) = 56 + 1 + j) ∧ (∀ j, j < 6 → zof (21 + 1 * j) = 63 + 1 + j) ∧ (∀ j, j < 5 → zof (27 + 1 * j) = 72 + 1 + j) ∧ (∀ j, j < 14 → zof (52 + 3 * j) = 11 + 3 * j) ∧ ∀ j, j < 2 → zof (94 + 3 * j) = 80 + 3 * j := by decide +kernel
theorem zfq {N : Nat} {s0 : Nat} {u v : Nat → Nat} (h : ∀ j, j < N → zof (u j) = v j) : (fun j => if j < N then some (zad s0 (u j)) else none) = fun j => if j < N then some (s0 + v j) else none := by
  funext j
  by_cases q : j < N
  · rw [if_pos q, if_pos q]
    unfold zad
    rw [h j q]
  · rw [if_neg q, if_neg q]
theorem zTg_56 (cy : Nat → ClassId) (s0 : Nat) : zTg cy s0 56 = .inl (cy 4, 6, .inr (.inr (.inr (.inr (fun j => if j < 6 then some (s0 + (56 + 1 + j)) else none))))) := by
  rw [← zfq zof_t.1]
  rfl
theorem zTg_63 (cy : Nat → ClassId) (s0 : Nat) : zTg cy s0 63 = .inl (cy 4, 6, .inr (.inr (.inr (.inr (fun j => if j < 6 then some (s0 + (63 + 1 + j)) else none))))) := by
  rw [← zfq zof_t.2.1]
  rfl
theorem zTg_72 (cy : Nat → ClassId) (s0 : Nat) : zTg cy s0 72 = .inl (cy 4, 5, .inr (.inr (.inr (.inr (fun j => if j < 5 then some (s0 + (72 + 1 + j)) else none))))) := by
  rw [← zfq zof_t.2.2.1]
  rfl
/-- a row of rooms, i of them made -/
def zeq (cy : Nat → ClassId) (s0 N base i : Nat) : va_E := .inl (cy 3, N, .inr (.inr (.inr (.inr (fun j => if j < i then some (s0 + (base + 3 * j)) else none)))))
theorem zeq_0 (cy : Nat → ClassId) (s0 N base : Nat) : zeq cy s0 N base 0 = .inl (cy 3, N, .inr (.inr (.inr (.inr (fun _ => none))))) := by
  unfold zeq
  congr 7
theorem zeq_s (s0 base i : Nat) : va_up (fun j => if j < i then some (s0 + (base + 3 * j)) else none) i (some (s0 + (base + 3 * i))) = fun j => if j < i + 1 then some (s0 + (base + 3 * j)) else none := by
  funext j
  by_cases q : j = i
  · rw [q, zup_e, if_pos (Nat.lt_succ_self i)]
  · rw [zup_n _ _ q]
    by_cases q2 : j < i
    · rw [if_pos q2, if_pos (by omega)]
    · rw [if_neg q2, if_neg (by omega)]
theorem zTg_10 (cy : Nat → ClassId) (s0 : Nat) : zTg cy s0 10 = zeq cy s0 14 11 14 := by
  unfold zeq
  rw [← zfq zof_t.2.2.2.1]
  rfl
theorem zTg_53 (cy : Nat → ClassId) (s0 : Nat) : zTg cy s0 53 = zeq cy s0 2 80 2 := by
  unfold zeq
  rw [← zfq zof_t.2.2.2.2]
  rfl
theorem zst_0a {cy : Nat → ClassId} {s0 b a : Nat} {f0 : Nat → va_E} {e e2 : va_E} (h : f0 b = e) (hab : b < a) : ∀ i, i < b + 1 → f0 i = va_up (va_up (zgt cy s0 f0 b) a e2) b e i := fun i hi => by
  by_cases q : i = b
  · rw [q, zup_e]
    exact h
  · rw [zup_n _ _ q, zup_n _ _ (by omega)]
    exact Eq.symm (if_pos (by omega))
theorem zst_fa {cy : Nat → ClassId} {s0 b a : Nat} {f0 : Nat → va_E} {e e2 : va_E} (h : zTg cy s0 b = e) (hab : b < a) (h2 : zTg cy s0 a = e2) (i : Nat) : va_up (va_up (zgt cy s0 f0 b) a e2) b e i = zf2 cy s0 f0 b i := by
  rw [← h2, ← zgt_ge (cy := cy) (s0 := s0) (f0 := f0) (Nat.le_of_lt hab), zup_self]
  exact zst_f h i
theorem zaa_f {cy : Nat → ClassId} {s0 N base i a b : Nat} {G : Nat → va_E} {e : va_E} (hab : ¬ a = b) (k : Nat) : va_up (va_up (va_up G a (zeq cy s0 N base i)) b e) a (.inl (cy 3, N, .inr (.inr (.inr (.inr (va_up (fun j => if j < i then some (s0 + (base + 3 * j)) else none) i (some (s0 + (base + 3 * i))))))))) k = va_up (va_up G a (zeq cy s0 N base (i + 1))) b e k := by
  rw [zeq_s]
  by_cases q : k = a
  · rw [q, zup_e, zup_n _ _ hab, zup_e]
    rfl
  · rw [zup_n _ _ q]
    by_cases q2 : k = b
    · rw [q2, zup_e, zup_e]
    · rw [zup_n _ _ q2, zup_n _ _ q2, zup_n _ _ q, zup_n _ _ q]
theorem zi_X0 : zYI yX0_init cX0_init 2 := ⟨zw_106, zw_42, zw_107, rfl, by decide, by decide +kernel⟩
theorem zi_X1 : zYI yX1_init cX1_init 1 := ⟨zw_126, zw_43, zw_127, rfl, by decide, by decide +kernel⟩
theorem zi_X2 : zYI yX2_init cX2_init 1 := ⟨zw_159, zw_44, zw_160, rfl, by decide, by decide +kernel⟩
theorem zi_X3 : zYI yX3_init cX3_init 1 := ⟨zw_76, zw_41, zw_77, rfl, by decide, by decide +kernel⟩
theorem zi_X4 : zYI yX4_init cX4_init 1 := ⟨zw_60, zw_40, zw_61, rfl, by decide, by decide +kernel⟩
theorem zi_X5 : zYI yX5_init cX5_init 2 := ⟨zw_52, zw_39, zw_53, rfl, by decide, by decide +kernel⟩
theorem zi_X6 : zYI yX6_init cX6_init 1 := ⟨zw_573, zw_45, zw_574, rfl, by decide, by decide +kernel⟩
set_option maxHeartbeats 4000000 in
set_option maxRecDepth 100000 in
theorem kc_X3 (l : Launch) (D : va_G) (cy : Nat → ClassId) (s0 : Nat) {b : Nat} (hb : zro3 b) (f0 : Nat → va_E) (hf : f0 b = .inr (3, [.int 0, .int 0, .int 0, .null, .null])) : zKc (zE0 l D cy s0) s0 yX3_init (.code yX3_init cX3_init 1 none) { frames := 1, cells := 2, slots := 16, locals := 12 } b (b + 1) f0 2 16 (zf2 cy s0 f0 b) := by
  refine zKc_of (by decide) rfl (by decide) (fun x hx hin rv => ?_)
  refine zc_to (g := (va_up (zgt cy s0 f0 b) b (.inr (3, [.int 0, .int 0, .int 0, .null, .null])))) ?_ [0] rfl rfl (zst_0 hf) rfl rfl
  refine zc_aload_n hx 0 dX3_init_0 rfl rfl ?_
  refine zc_obj hx zw_78 (Nat.le_of_ble_eq_true rfl) (Nat.le_of_ble_eq_true rfl) dX3_init_1 ?_
  refine zc_aload_n hx 0 dX3_init_4 rfl rfl ?_
  refine zc_iconst hx (v := 1) dX3_init_5 (by decide +kernel) ?_
  refine zd_put hx (b := b) (ci := 3) (k := 0) (C := RX3) (T := TX3) (N := 5) (ty := .int) (v := .int 1) (fs2 := [.int 1, .int 0, .int 0, .null, .null]) (by omega) rfl zin_X3 tyX3_ok nmX3 (by decide) zw_79 rfl (by decide +kernel) rfl rfl (Nat.le_of_ble_eq_true rfl) rfl dX3_init_6 ?_
  refine zc_aload_n hx 0 dX3_init_9 rfl rfl ?_
  refine zc_iconst hx (v := 0) dX3_init_10 (by decide +kernel) ?_
  refine zd_put hx (b := b) (ci := 3) (k := 1) (C := RX3) (T := TX3) (N := 5) (ty := .int) (v := .int 0) (fs2 := [.int 1, .int 0, .int 0, .null, .null]) (by omega) rfl zin_X3 tyX3_ok nmX3 (by decide) zw_82 rfl (by decide +kernel) rfl rfl (Nat.le_of_ble_eq_true rfl) rfl dX3_init_11 ?_
  refine zc_aload_n hx 0 dX3_init_14 rfl rfl ?_
  refine zc_iconst hx (v := 0) dX3_init_15 (by decide +kernel) ?_
  refine zd_put hx (b := b) (ci := 3) (k := 2) (C := RX3) (T := TX3) (N := 5) (ty := .int) (v := .int 0) (fs2 := [.int 1, .int 0, .int 0, .null, .null]) (by omega) rfl zin_X3 tyX3_ok nmX3 (by decide) zw_84 rfl (by decide +kernel) rfl rfl (Nat.le_of_ble_eq_true rfl) rfl dX3_init_16 ?_
  refine zc_aload_n hx 0 dX3_init_19 rfl rfl ?_
  refine zc_bipush hx (v := 8) dX3_init_20 (by decide +kernel) ?_
  refine zd_newi hx (by rfl) (N := 8) ((zup_n _ _ (by omega)).trans ((zgt_ge (by omega)).trans (zTg_r1 hb cy s0))) (by decide +kernel) (by decide +kernel) (by decide) (Nat.le_of_ble_eq_true rfl) (Nat.le_of_ble_eq_true rfl) dX3_init_22 ?_
  show zC (zE0 l D cy s0) s0 x 24 _ [.ref (s0 + (b + 1)), .ref (s0 + b)] (b + 1 + 1) _ 1 8
  refine zd_putF hx hin (b := b) (ci := 3) (k := 3) (C := RX3) (T := TX3) (N := 5) (ty := (.array .int)) (v := .ref (s0 + (b + 1))) (fs2 := [.int 1, .int 0, .int 0, .ref (s0 + (b + 1)), .null]) (by omega) rfl zin_X3 tyX3_ok nmX3 (by decide) zw_88 rfl rfl (by decide +kernel) rfl rfl (Nat.le_of_ble_eq_true rfl) rfl dX3_init_24 ?_
  refine zc_aload_n hx 0 dX3_init_27 rfl rfl ?_
  refine zc_bipush hx (v := 8) dX3_init_28 (by decide +kernel) ?_
  refine zd_newi hx (by rfl) (N := 8) ((zup_n _ _ (by omega)).trans ((zgt_ge (by omega)).trans (zTg_r2 hb cy s0))) (by decide +kernel) (by decide +kernel) (by decide) (Nat.le_of_ble_eq_true rfl) (Nat.le_of_ble_eq_true rfl) dX3_init_30 ?_
  show zC (zE0 l D cy s0) s0 x 32 _ [.ref (s0 + (b + 1 + 1)), .ref (s0 + b)] (b + 1 + 1 + 1) _ 2 16
  refine zd_putF hx hin (b := b) (ci := 3) (k := 4) (C := RX3) (T := TX3) (N := 5) (ty := (.array .int)) (v := .ref (s0 + (b + 1 + 1))) (fs2 := [.int 1, .int 0, .int 0, .ref (s0 + (b + 1)), .ref (s0 + (b + 1 + 1))]) (by omega) rfl zin_X3 tyX3_ok nmX3 (by decide) zw_90 rfl rfl (by decide +kernel) rfl rfl (Nat.le_of_ble_eq_true rfl) rfl dX3_init_32 ?_
  exact rv _ _ _ (fun i _ => zst_f (zTg_room hb cy s0) i) dX3_init_35
set_option maxHeartbeats 4000000 in
set_option maxRecDepth 100000 in
theorem kc_X4 (l : Launch) (D : va_G) (cy : Nat → ClassId) (s0 : Nat) (f0 : Nat → va_E) (hf : f0 1 = .inr (4, [.null, .int 0])) : zKc (zE0 l D cy s0) s0 yX4_init (.code yX4_init cX4_init 1 none) { frames := 1, cells := 1, slots := 90, locals := 12 } 1 (1 + 1) f0 1 90 (zf2 cy s0 f0 1) := by
  refine zKc_of (by decide) rfl (by decide) (fun x hx hin rv => ?_)
  refine zc_to (g := (va_up (zgt cy s0 f0 1) 1 (.inr (4, [.null, .int 0])))) ?_ [0] rfl rfl (zst_0 hf) rfl rfl
  refine zc_aload_n hx 0 dX4_init_0 rfl rfl ?_
  refine zc_obj hx zw_62 (Nat.le_of_ble_eq_true rfl) (Nat.le_of_ble_eq_true rfl) dX4_init_1 ?_
  refine zc_aload_n hx 0 dX4_init_4 rfl rfl ?_
  refine zc_bipush hx (v := 90) dX4_init_5 (by decide +kernel) ?_
  refine zd_newi hx (by rfl) (N := 90) (by rfl) (by decide +kernel) (by decide +kernel) (by decide) (Nat.le_of_ble_eq_true rfl) (Nat.le_of_ble_eq_true rfl) dX4_init_7 ?_
  show zC (zE0 l D cy s0) s0 x 9 _ [.ref (s0 + (2)), .ref (s0 + 1)] (3) _ 1 90
  refine zd_putF hx hin (b := 1) (ci := 4) (k := 0) (C := RX4) (T := TX4) (N := 2) (ty := (.array .int)) (v := .ref (s0 + (2))) (fs2 := [.ref (s0 + (2)), .int 0]) (by omega) rfl zin_X4 tyX4_ok nmX4 (by decide) zw_63 rfl rfl (by decide +kernel) rfl rfl (Nat.le_of_ble_eq_true rfl) rfl dX4_init_9 ?_
  refine zc_aload_n hx 0 dX4_init_12 rfl rfl ?_
  refine zc_iconst hx (v := 0) dX4_init_13 (by decide +kernel) ?_
  refine zd_put hx (b := 1) (ci := 4) (k := 1) (C := RX4) (T := TX4) (N := 2) (ty := .int) (v := .int 0) (fs2 := [.ref (s0 + (2)), .int 0]) (by omega) rfl zin_X4 tyX4_ok nmX4 (by decide) zw_65 rfl (by decide +kernel) rfl rfl (Nat.le_of_ble_eq_true rfl) rfl dX4_init_14 ?_
  exact rv _ _ _ (fun i _ => zst_f rfl i) dX4_init_17
set_option maxHeartbeats 4000000 in
set_option maxRecDepth 100000 in
theorem kc_X1 (l : Launch) (D : va_G) (cy : Nat → ClassId) (s0 : Nat) (f0 : Nat → va_E) (hf : f0 55 = .inr (1, [.null, .null, .null, .int 0, .int 0, .int 0, .long 0])) : zKc (zE0 l D cy s0) s0 yX1_init (.code yX1_init cX1_init 1 none) { frames := 1, cells := 15, slots := 90, locals := 12 } 55 (55 + 1) f0 15 90 (zf2 cy s0 f0 55) := by
  refine zKc_of (by decide) rfl (by decide) (fun x hx hin rv => ?_)
  refine zc_to (g := (va_up (zgt cy s0 f0 55) 55 (.inr (1, [.null, .null, .null, .int 0, .int 0, .int 0, .long 0])))) ?_ [0] rfl rfl (zst_0 hf) rfl rfl
  refine zc_aload_n hx 0 dX1_init_0 rfl rfl ?_
  refine zc_obj hx zw_128 (Nat.le_of_ble_eq_true rfl) (Nat.le_of_ble_eq_true rfl) dX1_init_1 ?_
  refine zc_aload_n hx 0 dX1_init_4 rfl rfl ?_
  refine zc_bipush hx (v := 6) dX1_init_5 (by decide +kernel) ?_
  refine zc_bipush hx (v := 6) dX1_init_7 (by decide +kernel) ?_
  refine zd_multi hx (by rfl) (N := 6) (K := 6) ((zup_n _ _ (by omega)).trans ((zgt_ge (by omega)).trans (zTg_56 cy s0))) (fun j hj => ((zup_n _ _ (by omega)).trans ((zgt_ge (by omega)).trans (zTg_row (by omega) l D cy s0)))) zw_129 (by decide +kernel) (by decide +kernel) (by decide +kernel) (by decide +kernel) (by decide) (by decide) (Nat.le_of_ble_eq_true rfl) (Nat.le_of_ble_eq_true rfl) dX1_init_9 ?_
  show zC (zE0 l D cy s0) s0 x 13 _ [.ref (s0 + 56), .ref (s0 + 55)] (63) _ 7 42
  refine zd_putF hx hin (b := 55) (ci := 1) (k := 0) (C := RX1) (T := TX1) (N := 7) (ty := (.array (.array .long))) (v := .ref (s0 + 56)) (fs2 := [.ref (s0 + 56), .null, .null, .int 0, .int 0, .int 0, .long 0]) (by omega) rfl zin_X1 tyX1_ok nmX1 (by decide) zw_131 rfl rfl (by decide +kernel) rfl rfl (Nat.le_of_ble_eq_true rfl) rfl dX1_init_13 ?_
  refine zc_aload_n hx 0 dX1_init_16 rfl rfl ?_
  refine zc_bipush hx (v := 6) dX1_init_17 (by decide +kernel) ?_
  refine zc_bipush hx (v := 6) dX1_init_19 (by decide +kernel) ?_
  refine zd_multi hx (by rfl) (N := 6) (K := 6) ((zup_n _ _ (by omega)).trans ((zgt_ge (by omega)).trans (zTg_63 cy s0))) (fun j hj => ((zup_n _ _ (by omega)).trans ((zgt_ge (by omega)).trans (zTg_row (by omega) l D cy s0)))) zw_129 (by decide +kernel) (by decide +kernel) (by decide +kernel) (by decide +kernel) (by decide) (by decide) (Nat.le_of_ble_eq_true rfl) (Nat.le_of_ble_eq_true rfl) dX1_init_21 ?_
  show zC (zE0 l D cy s0) s0 x 25 _ [.ref (s0 + 63), .ref (s0 + 55)] (70) _ 14 84
  refine zd_putF hx hin (b := 55) (ci := 1) (k := 1) (C := RX1) (T := TX1) (N := 7) (ty := (.array (.array .long))) (v := .ref (s0 + 63)) (fs2 := [.ref (s0 + 56), .ref (s0 + 63), .null, .int 0, .int 0, .int 0, .long 0]) (by omega) rfl zin_X1 tyX1_ok nmX1 (by decide) zw_132 rfl rfl (by decide +kernel) rfl rfl (Nat.le_of_ble_eq_true rfl) rfl dX1_init_25 ?_
  refine zc_aload_n hx 0 dX1_init_28 rfl rfl ?_
  refine zc_bipush hx (v := 6) dX1_init_29 (by decide +kernel) ?_
  refine zd_newj hx (by rfl) (N := 6) (by rfl) (by decide +kernel) (by decide +kernel) (by decide) (Nat.le_of_ble_eq_true rfl) (Nat.le_of_ble_eq_true rfl) dX1_init_31 ?_
  show zC (zE0 l D cy s0) s0 x 33 _ [.ref (s0 + (70)), .ref (s0 + 55)] (71) _ 15 90
  refine zd_putF hx hin (b := 55) (ci := 1) (k := 2) (C := RX1) (T := TX1) (N := 7) (ty := (.array .long)) (v := .ref (s0 + (70))) (fs2 := [.ref (s0 + 56), .ref (s0 + 63), .ref (s0 + (70)), .int 0, .int 0, .int 0, .long 0]) (by omega) rfl zin_X1 tyX1_ok nmX1 (by decide) zw_133 rfl rfl (by decide +kernel) rfl rfl (Nat.le_of_ble_eq_true rfl) rfl dX1_init_33 ?_
  refine zc_aload_n hx 0 dX1_init_36 rfl rfl ?_
  refine zc_iconst hx (v := 0) dX1_init_37 (by decide +kernel) ?_
  refine zd_put hx (b := 55) (ci := 1) (k := 3) (C := RX1) (T := TX1) (N := 7) (ty := .boolean) (v := .int 0) (fs2 := [.ref (s0 + 56), .ref (s0 + 63), .ref (s0 + (70)), .int 0, .int 0, .int 0, .long 0]) (by omega) rfl zin_X1 tyX1_ok nmX1 (by decide) zw_134 rfl (by decide +kernel) rfl rfl (Nat.le_of_ble_eq_true rfl) rfl dX1_init_38 ?_
  refine zc_aload_n hx 0 dX1_init_41 rfl rfl ?_
  refine zc_iconst hx (v := 1) dX1_init_42 (by decide +kernel) ?_
  refine zd_put hx (b := 55) (ci := 1) (k := 4) (C := RX1) (T := TX1) (N := 7) (ty := .int) (v := .int 1) (fs2 := [.ref (s0 + 56), .ref (s0 + 63), .ref (s0 + (70)), .int 0, .int 1, .int 0, .long 0]) (by omega) rfl zin_X1 tyX1_ok nmX1 (by decide) zw_135 rfl (by decide +kernel) rfl rfl (Nat.le_of_ble_eq_true rfl) rfl dX1_init_43 ?_
  refine zc_aload_n hx 0 dX1_init_46 rfl rfl ?_
  refine zc_iconst hx (v := 1) dX1_init_47 (by decide +kernel) ?_
  refine zd_put hx (b := 55) (ci := 1) (k := 5) (C := RX1) (T := TX1) (N := 7) (ty := .int) (v := .int 1) (fs2 := [.ref (s0 + 56), .ref (s0 + 63), .ref (s0 + (70)), .int 0, .int 1, .int 1, .long 0]) (by omega) rfl zin_X1 tyX1_ok nmX1 (by decide) zw_136 rfl (by decide +kernel) rfl rfl (Nat.le_of_ble_eq_true rfl) rfl dX1_init_48 ?_
  refine zc_aload_n hx 0 dX1_init_51 rfl rfl ?_
  refine zc_lconst hx (v := 1) dX1_init_52 rfl ?_
  refine zd_put hx (b := 55) (ci := 1) (k := 6) (C := RX1) (T := TX1) (N := 7) (ty := .long) (v := .long 1) (fs2 := [.ref (s0 + 56), .ref (s0 + 63), .ref (s0 + (70)), .int 0, .int 1, .int 1, .long 1]) (by omega) rfl zin_X1 tyX1_ok nmX1 (by decide) zw_137 rfl (by decide +kernel) rfl rfl (Nat.le_of_ble_eq_true rfl) rfl dX1_init_53 ?_
  exact rv _ _ _ (fun i _ => zst_f rfl i) dX1_init_56
set_option maxHeartbeats 4000000 in
set_option maxRecDepth 100000 in
theorem kc_X2 (l : Launch) (D : va_G) (cy : Nat → ClassId) (s0 : Nat) (f0 : Nat → va_E) (hf : f0 71 = .inr (2, [.null, .null, .null])) : zKc (zE0 l D cy s0) s0 yX2_init (.code yX2_init cX2_init 1 none) { frames := 1, cells := 8, slots := 296, locals := 12 } 71 (71 + 1) f0 8 296 (zf2 cy s0 f0 71) := by
  refine zKc_of (by decide) rfl (by decide) (fun x hx hin rv => ?_)
  refine zc_to (g := (va_up (zgt cy s0 f0 71) 71 (.inr (2, [.null, .null, .null])))) ?_ [0] rfl rfl (zst_0 hf) rfl rfl
  refine zc_aload_n hx 0 dX2_init_0 rfl rfl ?_
  refine zc_obj hx zw_161 (Nat.le_of_ble_eq_true rfl) (Nat.le_of_ble_eq_true rfl) dX2_init_1 ?_
  refine zc_aload_n hx 0 dX2_init_4 rfl rfl ?_
  refine zc_iconst hx (v := 5) dX2_init_5 (by decide +kernel) ?_
  refine zc_bipush hx (v := 6) dX2_init_6 (by decide +kernel) ?_
  refine zd_multi hx (by rfl) (N := 5) (K := 6) ((zup_n _ _ (by omega)).trans ((zgt_ge (by omega)).trans (zTg_72 cy s0))) (fun j hj => ((zup_n _ _ (by omega)).trans ((zgt_ge (by omega)).trans (zTg_row (by omega) l D cy s0)))) zw_162 (by decide +kernel) (by decide +kernel) (by decide +kernel) (by decide +kernel) (by decide) (by decide) (Nat.le_of_ble_eq_true rfl) (Nat.le_of_ble_eq_true rfl) dX2_init_8 ?_
  show zC (zE0 l D cy s0) s0 x 12 _ [.ref (s0 + 72), .ref (s0 + 71)] (78) _ 6 35
  refine zd_putF hx hin (b := 71) (ci := 2) (k := 0) (C := RX2) (T := TX2) (N := 3) (ty := (.array (.array .long))) (v := .ref (s0 + 72)) (fs2 := [.ref (s0 + 72), .null, .null]) (by omega) rfl zin_X2 tyX2_ok nmX2 (by decide) zw_163 rfl rfl (by decide +kernel) rfl rfl (Nat.le_of_ble_eq_true rfl) rfl dX2_init_12 ?_
  refine zc_aload_n hx 0 dX2_init_15 rfl rfl ?_
  refine zc_iconst hx (v := 5) dX2_init_16 (by decide +kernel) ?_
  refine zd_newi hx (by rfl) (N := 5) (by rfl) (by decide +kernel) (by decide +kernel) (by decide) (Nat.le_of_ble_eq_true rfl) (Nat.le_of_ble_eq_true rfl) dX2_init_17 ?_
  show zC (zE0 l D cy s0) s0 x 19 _ [.ref (s0 + (78)), .ref (s0 + 71)] (79) _ 7 40
  refine zd_putF hx hin (b := 71) (ci := 2) (k := 1) (C := RX2) (T := TX2) (N := 3) (ty := (.array .int)) (v := .ref (s0 + (78))) (fs2 := [.ref (s0 + 72), .ref (s0 + (78)), .null]) (by omega) rfl zin_X2 tyX2_ok nmX2 (by decide) zw_164 rfl rfl (by decide +kernel) rfl rfl (Nat.le_of_ble_eq_true rfl) rfl dX2_init_19 ?_
  refine zc_aload_n hx 0 dX2_init_22 rfl rfl ?_
  refine zc_sipush hx (v := 256) dX2_init_23 (by decide +kernel) ?_
  refine zd_newi hx (by rfl) (N := 256) (by rfl) (by decide +kernel) (by decide +kernel) (by decide) (Nat.le_of_ble_eq_true rfl) (Nat.le_of_ble_eq_true rfl) dX2_init_26 ?_
  show zC (zE0 l D cy s0) s0 x 28 _ [.ref (s0 + (79)), .ref (s0 + 71)] (80) _ 8 296
  refine zd_putF hx hin (b := 71) (ci := 2) (k := 2) (C := RX2) (T := TX2) (N := 3) (ty := (.array .int)) (v := .ref (s0 + (79))) (fs2 := [.ref (s0 + 72), .ref (s0 + (78)), .ref (s0 + (79))]) (by omega) rfl zin_X2 tyX2_ok nmX2 (by decide) zw_165 rfl rfl (by decide +kernel) rfl rfl (Nat.le_of_ble_eq_true rfl) rfl dX2_init_28 ?_
  exact rv _ _ _ (fun i _ => zst_f rfl i) dX2_init_31
set_option maxHeartbeats 4000000 in
set_option maxRecDepth 100000 in
theorem kc_X6 (l : Launch) (D : va_G) (cy : Nat → ClassId) (s0 : Nat) (f0 : Nat → va_E) (hf : f0 86 = .inr (6, [.int 0, .null, .int 0, .int 0, .int 0, .int 0, .null, .null, .null, .null, .null, .int 0, .null, .null, .long 0, .int 0, .null, .null, .long 0, .null, .null, .null, .long 0, .long 0])) : zKc (zE0 l D cy s0) s0 yX6_init (.code yX6_init cX6_init 1 none) { frames := 1, cells := 13, slots := 517, locals := 12 } 86 (86 + 1) f0 13 517 (zf2 cy s0 f0 86) := by
  refine zKc_of (by decide) rfl (by decide) (fun x hx hin rv => ?_)
  refine zc_to (g := (va_up (zgt cy s0 f0 86) 86 (.inr (6, [.int 0, .null, .int 0, .int 0, .int 0, .int 0, .null, .null, .null, .null, .null, .int 0, .null, .null, .long 0, .int 0, .null, .null, .long 0, .null, .null, .null, .long 0, .long 0])))) ?_ [0] rfl rfl (zst_0 hf) rfl rfl
  refine zc_aload_n hx 0 dX6_init_0 rfl rfl ?_
  refine zc_obj hx zw_575 (Nat.le_of_ble_eq_true rfl) (Nat.le_of_ble_eq_true rfl) dX6_init_1 ?_
  refine zc_aload_n hx 0 dX6_init_4 rfl rfl ?_
  refine zc_bipush hx (v := 90) dX6_init_5 (by decide +kernel) ?_
  refine zd_newi hx (by rfl) (N := 90) (by rfl) (by decide +kernel) (by decide +kernel) (by decide) (Nat.le_of_ble_eq_true rfl) (Nat.le_of_ble_eq_true rfl) dX6_init_7 ?_
  show zC (zE0 l D cy s0) s0 x 9 _ [.ref (s0 + (87)), .ref (s0 + 86)] (88) _ 1 90
  refine zd_putF hx hin (b := 86) (ci := 6) (k := 1) (C := RX6) (T := TX6) (N := 24) (ty := (.array .int)) (v := .ref (s0 + (87))) (fs2 := [.int 0, .ref (s0 + (87)), .int 0, .int 0, .int 0, .int 0, .null, .null, .null, .null, .null, .int 0, .null, .null, .long 0, .int 0, .null, .null, .long 0, .null, .null, .null, .long 0, .long 0]) (by omega) rfl zin_X6 tyX6_ok nmX6 (by decide) zw_577 rfl rfl (by decide +kernel) rfl rfl (Nat.le_of_ble_eq_true rfl) rfl dX6_init_9 ?_
  refine zc_aload_n hx 0 dX6_init_12 rfl rfl ?_
  refine zc_iconst hx (v := 1) dX6_init_13 (by decide +kernel) ?_
  refine zd_put hx (b := 86) (ci := 6) (k := 4) (C := RX6) (T := TX6) (N := 24) (ty := .int) (v := .int 1) (fs2 := [.int 0, .ref (s0 + (87)), .int 0, .int 0, .int 1, .int 0, .null, .null, .null, .null, .null, .int 0, .null, .null, .long 0, .int 0, .null, .null, .long 0, .null, .null, .null, .long 0, .long 0]) (by omega) rfl zin_X6 tyX6_ok nmX6 (by decide) zw_580 rfl (by decide +kernel) rfl rfl (Nat.le_of_ble_eq_true rfl) rfl dX6_init_14 ?_
  refine zc_aload_n hx 0 dX6_init_17 rfl rfl ?_
  refine zc_bipush hx (v := 18) dX6_init_18 (by decide +kernel) ?_
  refine zd_newi hx (by rfl) (N := 18) (by rfl) (by decide +kernel) (by decide +kernel) (by decide) (Nat.le_of_ble_eq_true rfl) (Nat.le_of_ble_eq_true rfl) dX6_init_20 ?_
  show zC (zE0 l D cy s0) s0 x 22 _ [.ref (s0 + (88)), .ref (s0 + 86)] (89) _ 2 108
  refine zd_putF hx hin (b := 86) (ci := 6) (k := 6) (C := RX6) (T := TX6) (N := 24) (ty := (.array .int)) (v := .ref (s0 + (88))) (fs2 := [.int 0, .ref (s0 + (87)), .int 0, .int 0, .int 1, .int 0, .ref (s0 + (88)), .null, .null, .null, .null, .int 0, .null, .null, .long 0, .int 0, .null, .null, .long 0, .null, .null, .null, .long 0, .long 0]) (by omega) rfl zin_X6 tyX6_ok nmX6 (by decide) zw_582 rfl rfl (by decide +kernel) rfl rfl (Nat.le_of_ble_eq_true rfl) rfl dX6_init_22 ?_
  refine zc_aload_n hx 0 dX6_init_25 rfl rfl ?_
  refine zc_bipush hx (v := 18) dX6_init_26 (by decide +kernel) ?_
  refine zd_newi hx (by rfl) (N := 18) (by rfl) (by decide +kernel) (by decide +kernel) (by decide) (Nat.le_of_ble_eq_true rfl) (Nat.le_of_ble_eq_true rfl) dX6_init_28 ?_
  show zC (zE0 l D cy s0) s0 x 30 _ [.ref (s0 + (89)), .ref (s0 + 86)] (90) _ 3 126
  refine zd_putF hx hin (b := 86) (ci := 6) (k := 7) (C := RX6) (T := TX6) (N := 24) (ty := (.array .int)) (v := .ref (s0 + (89))) (fs2 := [.int 0, .ref (s0 + (87)), .int 0, .int 0, .int 1, .int 0, .ref (s0 + (88)), .ref (s0 + (89)), .null, .null, .null, .int 0, .null, .null, .long 0, .int 0, .null, .null, .long 0, .null, .null, .null, .long 0, .long 0]) (by omega) rfl zin_X6 tyX6_ok nmX6 (by decide) zw_583 rfl rfl (by decide +kernel) rfl rfl (Nat.le_of_ble_eq_true rfl) rfl dX6_init_30 ?_
  refine zc_aload_n hx 0 dX6_init_33 rfl rfl ?_
  refine zc_bipush hx (v := 18) dX6_init_34 (by decide +kernel) ?_
  refine zd_newi hx (by rfl) (N := 18) (by rfl) (by decide +kernel) (by decide +kernel) (by decide) (Nat.le_of_ble_eq_true rfl) (Nat.le_of_ble_eq_true rfl) dX6_init_36 ?_
  show zC (zE0 l D cy s0) s0 x 38 _ [.ref (s0 + (90)), .ref (s0 + 86)] (91) _ 4 144
  refine zd_putF hx hin (b := 86) (ci := 6) (k := 8) (C := RX6) (T := TX6) (N := 24) (ty := (.array .int)) (v := .ref (s0 + (90))) (fs2 := [.int 0, .ref (s0 + (87)), .int 0, .int 0, .int 1, .int 0, .ref (s0 + (88)), .ref (s0 + (89)), .ref (s0 + (90)), .null, .null, .int 0, .null, .null, .long 0, .int 0, .null, .null, .long 0, .null, .null, .null, .long 0, .long 0]) (by omega) rfl zin_X6 tyX6_ok nmX6 (by decide) zw_584 rfl rfl (by decide +kernel) rfl rfl (Nat.le_of_ble_eq_true rfl) rfl dX6_init_38 ?_
  refine zc_aload_n hx 0 dX6_init_41 rfl rfl ?_
  refine zc_bipush hx (v := 18) dX6_init_42 (by decide +kernel) ?_
  refine zd_newi hx (by rfl) (N := 18) (by rfl) (by decide +kernel) (by decide +kernel) (by decide) (Nat.le_of_ble_eq_true rfl) (Nat.le_of_ble_eq_true rfl) dX6_init_44 ?_
  show zC (zE0 l D cy s0) s0 x 46 _ [.ref (s0 + (91)), .ref (s0 + 86)] (92) _ 5 162
  refine zd_putF hx hin (b := 86) (ci := 6) (k := 9) (C := RX6) (T := TX6) (N := 24) (ty := (.array .int)) (v := .ref (s0 + (91))) (fs2 := [.int 0, .ref (s0 + (87)), .int 0, .int 0, .int 1, .int 0, .ref (s0 + (88)), .ref (s0 + (89)), .ref (s0 + (90)), .ref (s0 + (91)), .null, .int 0, .null, .null, .long 0, .int 0, .null, .null, .long 0, .null, .null, .null, .long 0, .long 0]) (by omega) rfl zin_X6 tyX6_ok nmX6 (by decide) zw_585 rfl rfl (by decide +kernel) rfl rfl (Nat.le_of_ble_eq_true rfl) rfl dX6_init_46 ?_
  refine zc_aload_n hx 0 dX6_init_49 rfl rfl ?_
  refine zc_sipush hx (v := 252) dX6_init_50 (by decide +kernel) ?_
  refine zd_newi hx (by rfl) (N := 252) (by rfl) (by decide +kernel) (by decide +kernel) (by decide) (Nat.le_of_ble_eq_true rfl) (Nat.le_of_ble_eq_true rfl) dX6_init_53 ?_
  show zC (zE0 l D cy s0) s0 x 55 _ [.ref (s0 + (92)), .ref (s0 + 86)] (93) _ 6 414
  refine zd_putF hx hin (b := 86) (ci := 6) (k := 10) (C := RX6) (T := TX6) (N := 24) (ty := (.array .int)) (v := .ref (s0 + (92))) (fs2 := [.int 0, .ref (s0 + (87)), .int 0, .int 0, .int 1, .int 0, .ref (s0 + (88)), .ref (s0 + (89)), .ref (s0 + (90)), .ref (s0 + (91)), .ref (s0 + (92)), .int 0, .null, .null, .long 0, .int 0, .null, .null, .long 0, .null, .null, .null, .long 0, .long 0]) (by omega) rfl zin_X6 tyX6_ok nmX6 (by decide) zw_586 rfl rfl (by decide +kernel) rfl rfl (Nat.le_of_ble_eq_true rfl) rfl dX6_init_55 ?_
  refine zc_aload_n hx 0 dX6_init_58 rfl rfl ?_
  refine zc_bipush hx (v := 36) dX6_init_59 (by decide +kernel) ?_
  refine zd_newi hx (by rfl) (N := 36) (by rfl) (by decide +kernel) (by decide +kernel) (by decide) (Nat.le_of_ble_eq_true rfl) (Nat.le_of_ble_eq_true rfl) dX6_init_61 ?_
  show zC (zE0 l D cy s0) s0 x 63 _ [.ref (s0 + (93)), .ref (s0 + 86)] (94) _ 7 450
  refine zd_putF hx hin (b := 86) (ci := 6) (k := 12) (C := RX6) (T := TX6) (N := 24) (ty := (.array .int)) (v := .ref (s0 + (93))) (fs2 := [.int 0, .ref (s0 + (87)), .int 0, .int 0, .int 1, .int 0, .ref (s0 + (88)), .ref (s0 + (89)), .ref (s0 + (90)), .ref (s0 + (91)), .ref (s0 + (92)), .int 0, .ref (s0 + (93)), .null, .long 0, .int 0, .null, .null, .long 0, .null, .null, .null, .long 0, .long 0]) (by omega) rfl zin_X6 tyX6_ok nmX6 (by decide) zw_588 rfl rfl (by decide +kernel) rfl rfl (Nat.le_of_ble_eq_true rfl) rfl dX6_init_63 ?_
  refine zc_aload_n hx 0 dX6_init_66 rfl rfl ?_
  refine zc_iconst hx (v := 2) dX6_init_67 (by decide +kernel) ?_
  refine zd_newz hx (by rfl) (N := 2) (by rfl) (by decide +kernel) (by decide +kernel) (by decide) (Nat.le_of_ble_eq_true rfl) (Nat.le_of_ble_eq_true rfl) dX6_init_68 ?_
  show zC (zE0 l D cy s0) s0 x 70 _ [.ref (s0 + (94)), .ref (s0 + 86)] (95) _ 8 452
  refine zd_putF hx hin (b := 86) (ci := 6) (k := 13) (C := RX6) (T := TX6) (N := 24) (ty := (.array .boolean)) (v := .ref (s0 + (94))) (fs2 := [.int 0, .ref (s0 + (87)), .int 0, .int 0, .int 1, .int 0, .ref (s0 + (88)), .ref (s0 + (89)), .ref (s0 + (90)), .ref (s0 + (91)), .ref (s0 + (92)), .int 0, .ref (s0 + (93)), .ref (s0 + (94)), .long 0, .int 0, .null, .null, .long 0, .null, .null, .null, .long 0, .long 0]) (by omega) rfl zin_X6 tyX6_ok nmX6 (by decide) zw_589 rfl rfl (by decide +kernel) rfl rfl (Nat.le_of_ble_eq_true rfl) rfl dX6_init_70 ?_
  refine zc_aload_n hx 0 dX6_init_73 rfl rfl ?_
  refine zc_bipush hx (v := 25) dX6_init_74 (by decide +kernel) ?_
  refine zd_newj hx (by rfl) (N := 25) (by rfl) (by decide +kernel) (by decide +kernel) (by decide) (Nat.le_of_ble_eq_true rfl) (Nat.le_of_ble_eq_true rfl) dX6_init_76 ?_
  show zC (zE0 l D cy s0) s0 x 78 _ [.ref (s0 + (95)), .ref (s0 + 86)] (96) _ 9 477
  refine zd_putF hx hin (b := 86) (ci := 6) (k := 16) (C := RX6) (T := TX6) (N := 24) (ty := (.array .long)) (v := .ref (s0 + (95))) (fs2 := [.int 0, .ref (s0 + (87)), .int 0, .int 0, .int 1, .int 0, .ref (s0 + (88)), .ref (s0 + (89)), .ref (s0 + (90)), .ref (s0 + (91)), .ref (s0 + (92)), .int 0, .ref (s0 + (93)), .ref (s0 + (94)), .long 0, .int 0, .ref (s0 + (95)), .null, .long 0, .null, .null, .null, .long 0, .long 0]) (by omega) rfl zin_X6 tyX6_ok nmX6 (by decide) zw_592 rfl rfl (by decide +kernel) rfl rfl (Nat.le_of_ble_eq_true rfl) rfl dX6_init_78 ?_
  refine zc_aload_n hx 0 dX6_init_81 rfl rfl ?_
  refine zc_iconst hx (v := 5) dX6_init_82 (by decide +kernel) ?_
  refine zd_newj hx (by rfl) (N := 5) (by rfl) (by decide +kernel) (by decide +kernel) (by decide) (Nat.le_of_ble_eq_true rfl) (Nat.le_of_ble_eq_true rfl) dX6_init_83 ?_
  show zC (zE0 l D cy s0) s0 x 85 _ [.ref (s0 + (96)), .ref (s0 + 86)] (97) _ 10 482
  refine zd_putF hx hin (b := 86) (ci := 6) (k := 17) (C := RX6) (T := TX6) (N := 24) (ty := (.array .long)) (v := .ref (s0 + (96))) (fs2 := [.int 0, .ref (s0 + (87)), .int 0, .int 0, .int 1, .int 0, .ref (s0 + (88)), .ref (s0 + (89)), .ref (s0 + (90)), .ref (s0 + (91)), .ref (s0 + (92)), .int 0, .ref (s0 + (93)), .ref (s0 + (94)), .long 0, .int 0, .ref (s0 + (95)), .ref (s0 + (96)), .long 0, .null, .null, .null, .long 0, .long 0]) (by omega) rfl zin_X6 tyX6_ok nmX6 (by decide) zw_593 rfl rfl (by decide +kernel) rfl rfl (Nat.le_of_ble_eq_true rfl) rfl dX6_init_85 ?_
  refine zc_aload_n hx 0 dX6_init_88 rfl rfl ?_
  refine zc_bipush hx (v := 25) dX6_init_89 (by decide +kernel) ?_
  refine zd_newj hx (by rfl) (N := 25) (by rfl) (by decide +kernel) (by decide +kernel) (by decide) (Nat.le_of_ble_eq_true rfl) (Nat.le_of_ble_eq_true rfl) dX6_init_91 ?_
  show zC (zE0 l D cy s0) s0 x 93 _ [.ref (s0 + (97)), .ref (s0 + 86)] (98) _ 11 507
  refine zd_putF hx hin (b := 86) (ci := 6) (k := 19) (C := RX6) (T := TX6) (N := 24) (ty := (.array .long)) (v := .ref (s0 + (97))) (fs2 := [.int 0, .ref (s0 + (87)), .int 0, .int 0, .int 1, .int 0, .ref (s0 + (88)), .ref (s0 + (89)), .ref (s0 + (90)), .ref (s0 + (91)), .ref (s0 + (92)), .int 0, .ref (s0 + (93)), .ref (s0 + (94)), .long 0, .int 0, .ref (s0 + (95)), .ref (s0 + (96)), .long 0, .ref (s0 + (97)), .null, .null, .long 0, .long 0]) (by omega) rfl zin_X6 tyX6_ok nmX6 (by decide) zw_595 rfl rfl (by decide +kernel) rfl rfl (Nat.le_of_ble_eq_true rfl) rfl dX6_init_93 ?_
  refine zc_aload_n hx 0 dX6_init_96 rfl rfl ?_
  refine zc_iconst hx (v := 5) dX6_init_97 (by decide +kernel) ?_
  refine zd_newi hx (by rfl) (N := 5) (by rfl) (by decide +kernel) (by decide +kernel) (by decide) (Nat.le_of_ble_eq_true rfl) (Nat.le_of_ble_eq_true rfl) dX6_init_98 ?_
  show zC (zE0 l D cy s0) s0 x 100 _ [.ref (s0 + (98)), .ref (s0 + 86)] (99) _ 12 512
  refine zd_putF hx hin (b := 86) (ci := 6) (k := 20) (C := RX6) (T := TX6) (N := 24) (ty := (.array .int)) (v := .ref (s0 + (98))) (fs2 := [.int 0, .ref (s0 + (87)), .int 0, .int 0, .int 1, .int 0, .ref (s0 + (88)), .ref (s0 + (89)), .ref (s0 + (90)), .ref (s0 + (91)), .ref (s0 + (92)), .int 0, .ref (s0 + (93)), .ref (s0 + (94)), .long 0, .int 0, .ref (s0 + (95)), .ref (s0 + (96)), .long 0, .ref (s0 + (97)), .ref (s0 + (98)), .null, .long 0, .long 0]) (by omega) rfl zin_X6 tyX6_ok nmX6 (by decide) zw_596 rfl rfl (by decide +kernel) rfl rfl (Nat.le_of_ble_eq_true rfl) rfl dX6_init_100 ?_
  refine zc_aload_n hx 0 dX6_init_103 rfl rfl ?_
  refine zc_iconst hx (v := 5) dX6_init_104 (by decide +kernel) ?_
  refine zd_newi hx (by rfl) (N := 5) (by rfl) (by decide +kernel) (by decide +kernel) (by decide) (Nat.le_of_ble_eq_true rfl) (Nat.le_of_ble_eq_true rfl) dX6_init_105 ?_
  show zC (zE0 l D cy s0) s0 x 107 _ [.ref (s0 + (99)), .ref (s0 + 86)] (100) _ 13 517
  refine zd_putF hx hin (b := 86) (ci := 6) (k := 21) (C := RX6) (T := TX6) (N := 24) (ty := (.array .int)) (v := .ref (s0 + (99))) (fs2 := [.int 0, .ref (s0 + (87)), .int 0, .int 0, .int 1, .int 0, .ref (s0 + (88)), .ref (s0 + (89)), .ref (s0 + (90)), .ref (s0 + (91)), .ref (s0 + (92)), .int 0, .ref (s0 + (93)), .ref (s0 + (94)), .long 0, .int 0, .ref (s0 + (95)), .ref (s0 + (96)), .long 0, .ref (s0 + (97)), .ref (s0 + (98)), .ref (s0 + (99)), .long 0, .long 0]) (by omega) rfl zin_X6 tyX6_ok nmX6 (by decide) zw_597 rfl rfl (by decide +kernel) rfl rfl (Nat.le_of_ble_eq_true rfl) rfl dX6_init_107 ?_
  refine zc_aload_n hx 0 dX6_init_110 rfl rfl ?_
  refine zc_iconst hx (v := 1) dX6_init_111 (by decide +kernel) ?_
  refine zd_put hx (b := 86) (ci := 6) (k := 15) (C := RX6) (T := TX6) (N := 24) (ty := .int) (v := .int 1) (fs2 := [.int 0, .ref (s0 + (87)), .int 0, .int 0, .int 1, .int 0, .ref (s0 + (88)), .ref (s0 + (89)), .ref (s0 + (90)), .ref (s0 + (91)), .ref (s0 + (92)), .int 0, .ref (s0 + (93)), .ref (s0 + (94)), .long 0, .int 1, .ref (s0 + (95)), .ref (s0 + (96)), .long 0, .ref (s0 + (97)), .ref (s0 + (98)), .ref (s0 + (99)), .long 0, .long 0]) (by omega) rfl zin_X6 tyX6_ok nmX6 (by decide) zw_591 rfl (by decide +kernel) rfl rfl (Nat.le_of_ble_eq_true rfl) rfl dX6_init_112 ?_
  exact rv _ _ _ (fun i _ => zst_f rfl i) dX6_init_115
set_option maxHeartbeats 4000000 in
set_option maxRecDepth 100000 in
theorem kc_X0 (l : Launch) (D : va_G) (cy : Nat → ClassId) (s0 : Nat) (f0 : Nat → va_E) (hf : f0 9 = .inr (0, [.null, .int 0, .int 0])) : zKc (zE0 l D cy s0) s0 yX0_init (.code yX0_init cX0_init 2 none) { frames := 2, cells := 43, slots := 308, locals := 32 } 9 (9 + 1) f0 43 308 (zf2 cy s0 f0 9) := by
  refine zKc_of (by decide) rfl (by decide) (fun x hx hin rv => ?_)
  refine zc_to (g := (va_up (va_up (zgt cy s0 f0 9) 10 (zeq cy s0 14 11 0)) 9 (.inr (0, [.null, .int 0, .int 0])))) ?_ [0] rfl rfl (zst_0a hf (by omega)) rfl rfl
  refine zc_aload_n hx 0 dX0_init_0 rfl rfl ?_
  refine zc_obj hx zw_108 (Nat.le_of_ble_eq_true rfl) (Nat.le_of_ble_eq_true rfl) dX0_init_1 ?_
  refine zc_aload_n hx 0 dX0_init_4 rfl rfl ?_
  refine zc_bipush hx (v := 14) dX0_init_5 (by decide +kernel) ?_
  refine zd_newq hx (by rfl) (N := 14) ((zup_n _ _ (by omega)).trans ((zup_e _ _ _).trans (zeq_0 _ _ _ _))) zw_109 (by decide +kernel) (by decide +kernel) (by decide) (Nat.le_of_ble_eq_true rfl) (Nat.le_of_ble_eq_true rfl) dX0_init_7 ?_
  show zC (zE0 l D cy s0) s0 x 10 _ [.ref (s0 + 10), .ref (s0 + 9)] (11) _ 1 14
  refine zd_putF hx hin (b := 9) (ci := 0) (k := 0) (C := RX0) (T := TX0) (N := 3) (ty := (.array (.object "BalanceRoom$Room"))) (v := .ref (s0 + 10)) (fs2 := [.ref (s0 + 10), .int 0, .int 0]) (by omega) rfl zin_X0 tyX0_ok nmX0 (by decide) zw_112 rfl rfl (by decide +kernel) rfl rfl (Nat.le_of_ble_eq_true rfl) rfl dX0_init_10 ?_
  refine zc_aload_n hx 0 dX0_init_13 rfl rfl ?_
  refine zc_iconst hx (v := 0) dX0_init_14 (by decide +kernel) ?_
  refine zd_put hx (b := 9) (ci := 0) (k := 1) (C := RX0) (T := TX0) (N := 3) (ty := .int) (v := .int 0) (fs2 := [.ref (s0 + 10), .int 0, .int 0]) (by omega) rfl zin_X0 tyX0_ok nmX0 (by decide) zw_113 rfl (by decide +kernel) rfl rfl (Nat.le_of_ble_eq_true rfl) rfl dX0_init_15 ?_
  refine zc_aload_n hx 0 dX0_init_18 rfl rfl ?_
  refine zc_iconst hx (v := 0) dX0_init_19 (by decide +kernel) ?_
  refine zd_put hx (b := 9) (ci := 0) (k := 2) (C := RX0) (T := TX0) (N := 3) (ty := .int) (v := .int 0) (fs2 := [.ref (s0 + 10), .int 0, .int 0]) (by omega) rfl zin_X0 tyX0_ok nmX0 (by decide) zw_114 rfl (by decide +kernel) rfl rfl (Nat.le_of_ble_eq_true rfl) rfl dX0_init_20 ?_
  refine zc_iconst hx (v := nI 0) dX0_init_23 (by decide +kernel) ?_
  refine zc_istore_n hx (lv2 := [(1, .int (nI 0)), (0, .ref (s0 + 9))]) dX0_init_24 rfl (by decide) rfl ?_
  have lp : ∀ (fuel i : Nat) (_ : i ≤ 14), 14 - i < fuel → zC (zE0 l D cy s0) s0 x 25 [(1, .int (nI i)), (0, .ref (s0 + 9))] [] (11 + 3 * i) (va_up (va_up (zgt cy s0 f0 9) 10 (zeq cy s0 14 11 i)) 9 (.inr (0, [.ref (s0 + 10), .int 0, .int 0]))) (1 + 3 * i) (14 + 21 * i) := by
    intro fuel
    induction fuel with
    | zero =>
      intros; omega
    | succ fuel ih =>
      intro i hi hfu
      refine zc_iload_n hx 0 dX0_init_25 rfl rfl ?_
      refine zc_bipush hx (v := nI 14) dX0_init_26 (by decide +kernel) ?_
      refine zc_icmp_ge (tgt := 50) hx dX0_init_28 (by decide) (fun hc => ?_) (fun hc => ?_)
      · skip
        have hi2 : i = 14 := by
          have := (nI_leI (by decide) (by omega)).mp hc
          omega
        subst hi2
        show zC (zE0 l D cy s0) s0 x 50 _ [] (53) _ 43 308
        exact rv _ _ _ (fun i _ => zst_fa (a := 10) rfl (by omega) (zTg_10 cy s0) i) dX0_init_50
      · skip
        have hi2 : i < 14 := by
          rcases Nat.lt_or_ge i 14 with q | q
          · exact q
          · exact absurd ((nI_leI (by decide) (by omega)).mpr q) hc
        refine zc_aload_n hx 1 dX0_init_31 rfl rfl ?_
        refine zc_get hx (b := 9) (ci := 0) (k := 0) (C := RX0) (T := TX0) (N := 3) (fs := [.ref (s0 + 10), .int 0, .int 0]) (v := .ref (s0 + 10)) (by omega) (zup_e _ _ _) rfl zin_X0 (by decide) zw_112 rfl dX0_init_32 ?_
        refine zc_iload_n hx 0 dX0_init_35 rfl rfl ?_
        refine zd_mk (ci := 3) (C := RX3) (T := TX3) (N := 5) (fs := [.int 0, .int 0, .int 0, .null, .null]) hx (by omega) tyX3 zin_X3 tyX3_ok zw_109 zw_74 zw_41 rfl (fun j hj => by rcases (show j = 0 ∨ j = 1 ∨ j = 2 ∨ j = 3 ∨ j = 4 by omega) with rfl | rfl | rfl | rfl | rfl <;> rfl) (fun f1 h1 => kc_X3 l D cy s0 (by unfold zro3; omega) f1 h1) (Or.inl hx.2.2.2.2.2.1.2.2.2.2.2.1) zi_X3 (fun i h1 h2 => ((zup_n _ _ (by omega)).trans ((zup_n _ _ (by omega)).trans ((zgt_ge (by omega)).trans rfl)))) ⟨rfl, rfl⟩ ⟨Nat.le_of_ble_eq_true rfl, Nat.le_of_ble_eq_true rfl⟩ (by show _ ≤ 43; omega) (by show _ ≤ 308; omega) (Nat.le_of_ble_eq_true rfl) dX0_init_36 dX0_init_39 dX0_init_40 ?_
        refine zc_aast hx (a := 10) (b := 11 + 3 * i) (N := 14) (k := i) (g := fun j => if j < i then some (s0 + (11 + 3 * j)) else none) (vs := [.int 1, .int 0, .int 0, .ref (s0 + (11 + 3 * i + 1)), .ref (s0 + (11 + 3 * i + 2))]) (by omega) ((zup_n _ _ (by omega)).trans (zup_e _ _ _)) (by omega) ((zup_n _ _ (by omega)).trans ((zup_n _ _ (by omega)).trans ((zgt_ge (by omega)).trans (zTg_room (by unfold zro3; omega) cy s0)))) hi2 (by decide) dX0_init_43 ?_
        refine zc_iinc hx (w := nI (i + 1)) (lv2 := [(1, .int (nI (i + 1))), (0, .ref (s0 + 9))]) 0 dX0_init_44 rfl (z_inc _) (by decide) rfl ?_
        refine zc_goto (tgt := 25) hx dX0_init_47 (by decide) ?_
        exact zc_to (ih (i + 1) (by omega) (by omega)) [0, 1] rfl (by omega) (fun q _ => zaa_f (by omega) q) (by omega) (by omega)
  exact zc_to (lp _ 0 (Nat.zero_le _) (Nat.lt_succ_self _)) [0, 1] rfl rfl (fun q _ => rfl) rfl rfl
set_option maxHeartbeats 4000000 in
set_option maxRecDepth 100000 in
theorem kc_X5 (l : Launch) (D : va_G) (cy : Nat → ClassId) (s0 : Nat) (f0 : Nat → va_E) (hf : f0 0 = .inr (5, [.null, .null, .null, .null, .null, .null, .null, .null, .long 0])) : zKc (zE0 l D cy s0) s0 yX5_init (.code yX5_init cX5_init 2 none) { frames := 3, cells := 85, slots := 887, locals := 53 } 0 (0 + 1) f0 85 887 (zf2 cy s0 f0 0) := by
  refine zKc_of (by decide) rfl (by decide) (fun x hx hin rv => ?_)
  refine zc_to (g := (va_up (va_up (zgt cy s0 f0 0) 53 (zeq cy s0 2 80 0)) 0 (.inr (5, [.null, .null, .null, .null, .null, .null, .null, .null, .long 0])))) ?_ [0] rfl rfl (zst_0a hf (by omega)) rfl rfl
  refine zc_aload_n hx 0 dX5_init_0 rfl rfl ?_
  refine zc_obj hx zw_54 (Nat.le_of_ble_eq_true rfl) (Nat.le_of_ble_eq_true rfl) dX5_init_1 ?_
  refine zc_aload_n hx 0 dX5_init_4 rfl rfl ?_
  refine zd_mk (ci := 4) (C := RX4) (T := TX4) (N := 2) (fs := [.null, .int 0]) hx (by rfl) tyX4 zin_X4 tyX4_ok zw_57 zw_58 zw_40 rfl (fun j hj => by rcases (show j = 0 ∨ j = 1 by omega) with rfl | rfl <;> rfl) (fun f1 h1 => kc_X4 l D cy s0 f1 h1) (Or.inl hx.2.2.2.2.2.1.2.2.2.1) zi_X4 (fun i h1 h2 => ((zup_n _ _ (by omega)).trans ((zup_n _ _ (by omega)).trans ((zgt_ge (by omega)).trans rfl)))) ⟨rfl, rfl⟩ ⟨Nat.le_of_ble_eq_true rfl, Nat.le_of_ble_eq_true rfl⟩ (Nat.le_of_ble_eq_true rfl) (Nat.le_of_ble_eq_true rfl) (Nat.le_of_ble_eq_true rfl) dX5_init_5 dX5_init_8 dX5_init_9 ?_
  show zC (zE0 l D cy s0) s0 x 12 _ [.ref (s0 + (1)), .ref (s0 + 0)] (3) _ 2 92
  refine zd_putF hx hin (b := 0) (ci := 5) (k := 0) (C := RX5) (T := TX5) (N := 9) (ty := (.object "BalanceRoom$Text")) (v := .ref (s0 + (1))) (fs2 := [.ref (s0 + (1)), .null, .null, .null, .null, .null, .null, .null, .long 0]) (by omega) rfl zin_X5 tyX5_ok nmX5 (by decide) zw_174 rfl rfl (by decide +kernel) rfl rfl (Nat.le_of_ble_eq_true rfl) rfl dX5_init_12 ?_
  refine zc_aload_n hx 0 dX5_init_15 rfl rfl ?_
  refine zd_mk (ci := 3) (C := RX3) (T := TX3) (N := 5) (fs := [.int 0, .int 0, .int 0, .null, .null]) hx (by rfl) tyX3 zin_X3 tyX3_ok zw_73 zw_74 zw_41 rfl (fun j hj => by rcases (show j = 0 ∨ j = 1 ∨ j = 2 ∨ j = 3 ∨ j = 4 by omega) with rfl | rfl | rfl | rfl | rfl <;> rfl) (fun f1 h1 => kc_X3 l D cy s0 (by unfold zro3; omega) f1 h1) (Or.inl hx.2.2.2.2.2.1.2.2.2.2.1) zi_X3 (fun i h1 h2 => ((zup_n _ _ (by omega)).trans ((zup_n _ _ (by omega)).trans ((zgt_ge (by omega)).trans rfl)))) ⟨rfl, rfl⟩ ⟨Nat.le_of_ble_eq_true rfl, Nat.le_of_ble_eq_true rfl⟩ (Nat.le_of_ble_eq_true rfl) (Nat.le_of_ble_eq_true rfl) (Nat.le_of_ble_eq_true rfl) dX5_init_16 dX5_init_19 dX5_init_20 ?_
  show zC (zE0 l D cy s0) s0 x 23 _ [.ref (s0 + (3)), .ref (s0 + 0)] (6) _ 5 113
  refine zd_putF hx hin (b := 0) (ci := 5) (k := 1) (C := RX5) (T := TX5) (N := 9) (ty := (.object "BalanceRoom$Room")) (v := .ref (s0 + (3))) (fs2 := [.ref (s0 + (1)), .ref (s0 + (3)), .null, .null, .null, .null, .null, .null, .long 0]) (by omega) rfl zin_X5 tyX5_ok nmX5 (by decide) zw_175 rfl rfl (by decide +kernel) rfl rfl (Nat.le_of_ble_eq_true rfl) rfl dX5_init_23 ?_
  refine zc_aload_n hx 0 dX5_init_26 rfl rfl ?_
  refine zd_mk (ci := 3) (C := RX3) (T := TX3) (N := 5) (fs := [.int 0, .int 0, .int 0, .null, .null]) hx (by rfl) tyX3 zin_X3 tyX3_ok zw_73 zw_74 zw_41 rfl (fun j hj => by rcases (show j = 0 ∨ j = 1 ∨ j = 2 ∨ j = 3 ∨ j = 4 by omega) with rfl | rfl | rfl | rfl | rfl <;> rfl) (fun f1 h1 => kc_X3 l D cy s0 (by unfold zro3; omega) f1 h1) (Or.inl hx.2.2.2.2.2.1.2.2.2.2.1) zi_X3 (fun i h1 h2 => ((zup_n _ _ (by omega)).trans ((zup_n _ _ (by omega)).trans ((zgt_ge (by omega)).trans rfl)))) ⟨rfl, rfl⟩ ⟨Nat.le_of_ble_eq_true rfl, Nat.le_of_ble_eq_true rfl⟩ (Nat.le_of_ble_eq_true rfl) (Nat.le_of_ble_eq_true rfl) (Nat.le_of_ble_eq_true rfl) dX5_init_27 dX5_init_30 dX5_init_31 ?_
  show zC (zE0 l D cy s0) s0 x 34 _ [.ref (s0 + (6)), .ref (s0 + 0)] (9) _ 8 134
  refine zd_putF hx hin (b := 0) (ci := 5) (k := 2) (C := RX5) (T := TX5) (N := 9) (ty := (.object "BalanceRoom$Room")) (v := .ref (s0 + (6))) (fs2 := [.ref (s0 + (1)), .ref (s0 + (3)), .ref (s0 + (6)), .null, .null, .null, .null, .null, .long 0]) (by omega) rfl zin_X5 tyX5_ok nmX5 (by decide) zw_176 rfl rfl (by decide +kernel) rfl rfl (Nat.le_of_ble_eq_true rfl) rfl dX5_init_34 ?_
  refine zc_aload_n hx 0 dX5_init_37 rfl rfl ?_
  refine zd_mk (ci := 0) (C := RX0) (T := TX0) (N := 3) (fs := [.null, .int 0, .int 0]) hx (by rfl) tyX0 zin_X0 tyX0_ok zw_103 zw_104 zw_42 rfl (fun j hj => by rcases (show j = 0 ∨ j = 1 ∨ j = 2 by omega) with rfl | rfl | rfl <;> rfl) (fun f1 h1 => kc_X0 l D cy s0 f1 h1) (Or.inr zw_105) zi_X0 (fun i h1 h2 => ((zup_n _ _ (by omega)).trans ((zup_n _ _ (by omega)).trans ((zgt_ge (by omega)).trans rfl)))) ⟨rfl, rfl⟩ ⟨Nat.le_of_ble_eq_true rfl, Nat.le_of_ble_eq_true rfl⟩ (Nat.le_of_ble_eq_true rfl) (Nat.le_of_ble_eq_true rfl) (Nat.le_of_ble_eq_true rfl) dX5_init_38 dX5_init_41 dX5_init_42 ?_
  show zC (zE0 l D cy s0) s0 x 45 _ [.ref (s0 + (9)), .ref (s0 + 0)] (53) _ 52 445
  refine zd_putF hx hin (b := 0) (ci := 5) (k := 3) (C := RX5) (T := TX5) (N := 9) (ty := (.object "BalanceRoom$Acts")) (v := .ref (s0 + (9))) (fs2 := [.ref (s0 + (1)), .ref (s0 + (3)), .ref (s0 + (6)), .ref (s0 + (9)), .null, .null, .null, .null, .long 0]) (by omega) rfl zin_X5 tyX5_ok nmX5 (by decide) zw_177 rfl rfl (by decide +kernel) rfl rfl (Nat.le_of_ble_eq_true rfl) rfl dX5_init_45 ?_
  refine zc_aload_n hx 0 dX5_init_48 rfl rfl ?_
  refine zc_iconst hx (v := 2) dX5_init_49 (by decide +kernel) ?_
  refine zd_newq hx (by rfl) (N := 2) ((zup_n _ _ (by omega)).trans ((zup_e _ _ _).trans (zeq_0 _ _ _ _))) zw_73 (by decide +kernel) (by decide +kernel) (by decide) (Nat.le_of_ble_eq_true rfl) (Nat.le_of_ble_eq_true rfl) dX5_init_50 ?_
  show zC (zE0 l D cy s0) s0 x 53 _ [.ref (s0 + 53), .ref (s0 + 0)] (54) _ 53 447
  refine zd_putF hx hin (b := 0) (ci := 5) (k := 4) (C := RX5) (T := TX5) (N := 9) (ty := (.array (.object "BalanceRoom$Room"))) (v := .ref (s0 + 53)) (fs2 := [.ref (s0 + (1)), .ref (s0 + (3)), .ref (s0 + (6)), .ref (s0 + (9)), .ref (s0 + 53), .null, .null, .null, .long 0]) (by omega) rfl zin_X5 tyX5_ok nmX5 (by decide) zw_178 rfl rfl (by decide +kernel) rfl rfl (Nat.le_of_ble_eq_true rfl) rfl dX5_init_53 ?_
  refine zc_aload_n hx 0 dX5_init_56 rfl rfl ?_
  refine zc_iconst hx (v := 2) dX5_init_57 (by decide +kernel) ?_
  refine zd_newz hx (by rfl) (N := 2) ((zup_n _ _ (by omega)).trans ((zup_n _ _ (by omega)).trans ((zgt_ge (by omega)).trans (by rfl)))) (by decide +kernel) (by decide +kernel) (by decide) (Nat.le_of_ble_eq_true rfl) (Nat.le_of_ble_eq_true rfl) dX5_init_58 ?_
  show zC (zE0 l D cy s0) s0 x 60 _ [.ref (s0 + (54)), .ref (s0 + 0)] (55) _ 54 449
  refine zd_putF hx hin (b := 0) (ci := 5) (k := 5) (C := RX5) (T := TX5) (N := 9) (ty := (.array .boolean)) (v := .ref (s0 + (54))) (fs2 := [.ref (s0 + (1)), .ref (s0 + (3)), .ref (s0 + (6)), .ref (s0 + (9)), .ref (s0 + 53), .ref (s0 + (54)), .null, .null, .long 0]) (by omega) rfl zin_X5 tyX5_ok nmX5 (by decide) zw_179 rfl rfl (by decide +kernel) rfl rfl (Nat.le_of_ble_eq_true rfl) rfl dX5_init_60 ?_
  refine zc_aload_n hx 0 dX5_init_63 rfl rfl ?_
  refine zd_mk (ci := 1) (C := RX1) (T := TX1) (N := 7) (fs := [.null, .null, .null, .int 0, .int 0, .int 0, .long 0]) hx (by rfl) tyX1 zin_X1 tyX1_ok zw_123 zw_124 zw_43 rfl (fun j hj => by rcases (show j = 0 ∨ j = 1 ∨ j = 2 ∨ j = 3 ∨ j = 4 ∨ j = 5 ∨ j = 6 by omega) with rfl | rfl | rfl | rfl | rfl | rfl | rfl <;> rfl) (fun f1 h1 => kc_X1 l D cy s0 f1 h1) (Or.inl hx.2.2.2.2.2.1.2.2.2.2.2.2.1) zi_X1 (fun i h1 h2 => ((zup_n _ _ (by omega)).trans ((zup_n _ _ (by omega)).trans ((zgt_ge (by omega)).trans rfl)))) ⟨rfl, rfl⟩ ⟨Nat.le_of_ble_eq_true rfl, Nat.le_of_ble_eq_true rfl⟩ (Nat.le_of_ble_eq_true rfl) (Nat.le_of_ble_eq_true rfl) (Nat.le_of_ble_eq_true rfl) dX5_init_64 dX5_init_67 dX5_init_68 ?_
  show zC (zE0 l D cy s0) s0 x 71 _ [.ref (s0 + (55)), .ref (s0 + 0)] (71) _ 70 546
  refine zd_putF hx hin (b := 0) (ci := 5) (k := 6) (C := RX5) (T := TX5) (N := 9) (ty := (.object "BalanceRoom$Fit")) (v := .ref (s0 + (55))) (fs2 := [.ref (s0 + (1)), .ref (s0 + (3)), .ref (s0 + (6)), .ref (s0 + (9)), .ref (s0 + 53), .ref (s0 + (54)), .ref (s0 + (55)), .null, .long 0]) (by omega) rfl zin_X5 tyX5_ok nmX5 (by decide) zw_180 rfl rfl (by decide +kernel) rfl rfl (Nat.le_of_ble_eq_true rfl) rfl dX5_init_71 ?_
  refine zc_aload_n hx 0 dX5_init_74 rfl rfl ?_
  refine zd_mk (ci := 2) (C := RX2) (T := TX2) (N := 3) (fs := [.null, .null, .null]) hx (by rfl) tyX2 zin_X2 tyX2_ok zw_156 zw_157 zw_44 rfl (fun j hj => by rcases (show j = 0 ∨ j = 1 ∨ j = 2 by omega) with rfl | rfl | rfl <;> rfl) (fun f1 h1 => kc_X2 l D cy s0 f1 h1) (Or.inl hx.2.2.2.2.2.1.2.2.2.2.2.2.2) zi_X2 (fun i h1 h2 => ((zup_n _ _ (by omega)).trans ((zup_n _ _ (by omega)).trans ((zgt_ge (by omega)).trans rfl)))) ⟨rfl, rfl⟩ ⟨Nat.le_of_ble_eq_true rfl, Nat.le_of_ble_eq_true rfl⟩ (Nat.le_of_ble_eq_true rfl) (Nat.le_of_ble_eq_true rfl) (Nat.le_of_ble_eq_true rfl) dX5_init_75 dX5_init_78 dX5_init_79 ?_
  show zC (zE0 l D cy s0) s0 x 82 _ [.ref (s0 + (71)), .ref (s0 + 0)] (80) _ 79 845
  refine zd_putF hx hin (b := 0) (ci := 5) (k := 7) (C := RX5) (T := TX5) (N := 9) (ty := (.object "BalanceRoom$Ranks")) (v := .ref (s0 + (71))) (fs2 := [.ref (s0 + (1)), .ref (s0 + (3)), .ref (s0 + (6)), .ref (s0 + (9)), .ref (s0 + 53), .ref (s0 + (54)), .ref (s0 + (55)), .ref (s0 + (71)), .long 0]) (by omega) rfl zin_X5 tyX5_ok nmX5 (by decide) zw_181 rfl rfl (by decide +kernel) rfl rfl (Nat.le_of_ble_eq_true rfl) rfl dX5_init_82 ?_
  refine zc_aload_n hx 0 dX5_init_85 rfl rfl ?_
  refine zc_lconst hx (v := 0) dX5_init_86 rfl ?_
  refine zd_put hx (b := 0) (ci := 5) (k := 8) (C := RX5) (T := TX5) (N := 9) (ty := .long) (v := .long 0) (fs2 := [.ref (s0 + (1)), .ref (s0 + (3)), .ref (s0 + (6)), .ref (s0 + (9)), .ref (s0 + 53), .ref (s0 + (54)), .ref (s0 + (55)), .ref (s0 + (71)), .long 0]) (by omega) rfl zin_X5 tyX5_ok nmX5 (by decide) zw_182 rfl (by decide +kernel) rfl rfl (Nat.le_of_ble_eq_true rfl) rfl dX5_init_87 ?_
  refine zc_iconst hx (v := nI 0) dX5_init_90 (by decide +kernel) ?_
  refine zc_istore_n hx (lv2 := [(1, .int (nI 0)), (0, .ref (s0 + 0))]) dX5_init_91 rfl (by decide) rfl ?_
  have lp : ∀ (fuel i : Nat) (_ : i ≤ 2), 2 - i < fuel → zC (zE0 l D cy s0) s0 x 92 [(1, .int (nI i)), (0, .ref (s0 + 0))] [] (80 + 3 * i) (va_up (va_up (zgt cy s0 f0 0) 53 (zeq cy s0 2 80 i)) 0 (.inr (5, [.ref (s0 + (1)), .ref (s0 + (3)), .ref (s0 + (6)), .ref (s0 + (9)), .ref (s0 + 53), .ref (s0 + (54)), .ref (s0 + (55)), .ref (s0 + (71)), .long 0]))) (79 + 3 * i) (845 + 21 * i) := by
    intro fuel
    induction fuel with
    | zero =>
      intros; omega
    | succ fuel ih =>
      intro i hi hfu
      refine zc_iload_n hx 0 dX5_init_92 rfl rfl ?_
      refine zc_iconst hx (v := nI 2) dX5_init_93 (by decide +kernel) ?_
      refine zc_icmp_ge (tgt := 116) hx dX5_init_94 (by decide) (fun hc => ?_) (fun hc => ?_)
      · skip
        have hi2 : i = 2 := by
          have := (nI_leI (by decide) (by omega)).mp hc
          omega
        subst hi2
        show zC (zE0 l D cy s0) s0 x 116 _ [] (86) _ 85 887
        exact rv _ _ _ (fun i _ => zst_fa (a := 53) rfl (by omega) (zTg_53 cy s0) i) dX5_init_116
      · skip
        have hi2 : i < 2 := by
          rcases Nat.lt_or_ge i 2 with q | q
          · exact q
          · exact absurd ((nI_leI (by decide) (by omega)).mpr q) hc
        refine zc_aload_n hx 1 dX5_init_97 rfl rfl ?_
        refine zc_get hx (b := 0) (ci := 5) (k := 4) (C := RX5) (T := TX5) (N := 9) (fs := [.ref (s0 + (1)), .ref (s0 + (3)), .ref (s0 + (6)), .ref (s0 + (9)), .ref (s0 + 53), .ref (s0 + (54)), .ref (s0 + (55)), .ref (s0 + (71)), .long 0]) (v := .ref (s0 + 53)) (by omega) (zup_e _ _ _) rfl zin_X5 (by decide) zw_178 rfl dX5_init_98 ?_
        refine zc_iload_n hx 0 dX5_init_101 rfl rfl ?_
        refine zd_mk (ci := 3) (C := RX3) (T := TX3) (N := 5) (fs := [.int 0, .int 0, .int 0, .null, .null]) hx (by omega) tyX3 zin_X3 tyX3_ok zw_73 zw_74 zw_41 rfl (fun j hj => by rcases (show j = 0 ∨ j = 1 ∨ j = 2 ∨ j = 3 ∨ j = 4 by omega) with rfl | rfl | rfl | rfl | rfl <;> rfl) (fun f1 h1 => kc_X3 l D cy s0 (by unfold zro3; omega) f1 h1) (Or.inl hx.2.2.2.2.2.1.2.2.2.2.1) zi_X3 (fun i h1 h2 => ((zup_n _ _ (by omega)).trans ((zup_n _ _ (by omega)).trans ((zgt_ge (by omega)).trans rfl)))) ⟨rfl, rfl⟩ ⟨Nat.le_of_ble_eq_true rfl, Nat.le_of_ble_eq_true rfl⟩ (by show _ ≤ 85; omega) (by show _ ≤ 887; omega) (Nat.le_of_ble_eq_true rfl) dX5_init_102 dX5_init_105 dX5_init_106 ?_
        refine zc_aast hx (a := 53) (b := 80 + 3 * i) (N := 2) (k := i) (g := fun j => if j < i then some (s0 + (80 + 3 * j)) else none) (vs := [.int 1, .int 0, .int 0, .ref (s0 + (80 + 3 * i + 1)), .ref (s0 + (80 + 3 * i + 2))]) (by omega) ((zup_n _ _ (by omega)).trans (zup_e _ _ _)) (by omega) ((zup_n _ _ (by omega)).trans ((zup_n _ _ (by omega)).trans ((zgt_ge (by omega)).trans (zTg_room (by unfold zro3; omega) cy s0)))) hi2 (by decide) dX5_init_109 ?_
        refine zc_iinc hx (w := nI (i + 1)) (lv2 := [(1, .int (nI (i + 1))), (0, .ref (s0 + 0))]) 0 dX5_init_110 rfl (z_inc _) (by decide) rfl ?_
        refine zc_goto (tgt := 92) hx dX5_init_113 (by decide) ?_
        exact zc_to (ih (i + 1) (by omega) (by omega)) [0, 1] rfl (by omega) (fun q _ => zaa_f (by omega) q) (by omega) (by omega)
  exact zc_to (lp _ 0 (Nat.zero_le _) (Nat.lt_succ_self _)) [0, 1] rfl rfl (fun q _ => rfl) rfl rfl
