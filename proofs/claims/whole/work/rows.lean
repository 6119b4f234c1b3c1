section
def lw_okq (q : MethodName × Nat) : Prop := (q.1.cls ≠ "java/lang/invoke/MethodHandle" ∧ q.1.cls ≠ "java/lang/invoke/VarHandle") ∧ Cond.instantiable q.1.cls q.2 ∈ tables_1 ∧ Cond.privateMethod q.1 ∈ tables_1 ∧ Cond.instanceMethod q.1 ∈ tables_1
theorem lw_p0 : lw_okq (⟨"BalanceRoom$Text", "fits", "(I)Z"⟩, 2) := ⟨⟨by decide +kernel, by decide +kernel⟩, List.mem_of_getElem? (i := 20) (by decide +kernel), List.mem_of_getElem? (i := 181) (by decide +kernel), List.mem_of_getElem? (i := 182) (by decide +kernel)⟩
theorem lw_p1 : lw_okq (⟨"BalanceRoom$Text", "figureAt", "(I)I"⟩, 2) := ⟨⟨by decide +kernel, by decide +kernel⟩, List.mem_of_getElem? (i := 20) (by decide +kernel), List.mem_of_getElem? (i := 212) (by decide +kernel), List.mem_of_getElem? (i := 213) (by decide +kernel)⟩
theorem lw_p2 : lw_okq (⟨"BalanceRoom$Text", "startOf", "(I)I"⟩, 2) := ⟨⟨by decide +kernel, by decide +kernel⟩, List.mem_of_getElem? (i := 20) (by decide +kernel), List.mem_of_getElem? (i := 227) (by decide +kernel), List.mem_of_getElem? (i := 228) (by decide +kernel)⟩
theorem lw_p3 : lw_okq (⟨"BalanceRoom$Ranks", "extended", "(ILBalanceRoom$Room;IZ)I"⟩, 3) := ⟨⟨by decide +kernel, by decide +kernel⟩, List.mem_of_getElem? (i := 119) (by decide +kernel), List.mem_of_getElem? (i := 316) (by decide +kernel), List.mem_of_getElem? (i := 317) (by decide +kernel)⟩
theorem lw_p4 : lw_okq (⟨"BalanceRoom$Fit", "put", "(LBalanceRoom$Room;II)V"⟩, 7) := ⟨⟨by decide +kernel, by decide +kernel⟩, List.mem_of_getElem? (i := 86) (by decide +kernel), List.mem_of_getElem? (i := 353) (by decide +kernel), List.mem_of_getElem? (i := 354) (by decide +kernel)⟩
theorem lw_p5 : lw_okq (⟨"BalanceRoom$Fit", "sweepAll", "(Z)Z"⟩, 7) := ⟨⟨by decide +kernel, by decide +kernel⟩, List.mem_of_getElem? (i := 86) (by decide +kernel), List.mem_of_getElem? (i := 358) (by decide +kernel), List.mem_of_getElem? (i := 359) (by decide +kernel)⟩
theorem lw_p6 : lw_okq (⟨"BalanceRoom$Fit", "sweep", "(II)V"⟩, 7) := ⟨⟨by decide +kernel, by decide +kernel⟩, List.mem_of_getElem? (i := 86) (by decide +kernel), List.mem_of_getElem? (i := 363) (by decide +kernel), List.mem_of_getElem? (i := 364) (by decide +kernel)⟩
theorem lw_p7 : lw_okq (⟨"BalanceRoom$Fit", "sweepRow", "(IIJ)V"⟩, 7) := ⟨⟨by decide +kernel, by decide +kernel⟩, List.mem_of_getElem? (i := 86) (by decide +kernel), List.mem_of_getElem? (i := 367) (by decide +kernel), List.mem_of_getElem? (i := 368) (by decide +kernel)⟩
theorem lw_p8 : lw_okq (⟨"BalanceRoom$Fit", "solvesWithout", "(LBalanceRoom$Room;I)Z"⟩, 7) := ⟨⟨by decide +kernel, by decide +kernel⟩, List.mem_of_getElem? (i := 86) (by decide +kernel), List.mem_of_getElem? (i := 450) (by decide +kernel), List.mem_of_getElem? (i := 451) (by decide +kernel)⟩
theorem lw_p9 : lw_okq (⟨"BalanceRoom", "holds", "(I)Z"⟩, 9) := ⟨⟨by decide +kernel, by decide +kernel⟩, List.mem_of_getElem? (i := 12) (by decide +kernel), List.mem_of_getElem? (i := 469) (by decide +kernel), List.mem_of_getElem? (i := 470) (by decide +kernel)⟩
theorem lw_p10 : lw_okq (⟨"BalanceRoom", "exchanged", "(II)Z"⟩, 9) := ⟨⟨by decide +kernel, by decide +kernel⟩, List.mem_of_getElem? (i := 12) (by decide +kernel), List.mem_of_getElem? (i := 473) (by decide +kernel), List.mem_of_getElem? (i := 474) (by decide +kernel)⟩
theorem lw_p11 : lw_okq (⟨"BalanceRoom", "removed", "(I)Z"⟩, 9) := ⟨⟨by decide +kernel, by decide +kernel⟩, List.mem_of_getElem? (i := 12) (by decide +kernel), List.mem_of_getElem? (i := 477) (by decide +kernel), List.mem_of_getElem? (i := 478) (by decide +kernel)⟩
theorem lw_p12 : lw_okq (⟨"BalanceRoom", "masterSet", "(I)Z"⟩, 9) := ⟨⟨by decide +kernel, by decide +kernel⟩, List.mem_of_getElem? (i := 12) (by decide +kernel), List.mem_of_getElem? (i := 481) (by decide +kernel), List.mem_of_getElem? (i := 482) (by decide +kernel)⟩
theorem lw_p13 : lw_okq (⟨"BalanceRoom", "drawReadings", "(I)V"⟩, 9) := ⟨⟨by decide +kernel, by decide +kernel⟩, List.mem_of_getElem? (i := 12) (by decide +kernel), List.mem_of_getElem? (i := 517) (by decide +kernel), List.mem_of_getElem? (i := 518) (by decide +kernel)⟩
theorem lw_p14 : lw_okq (⟨"BalanceRoomModel", "readRoom", "()I"⟩, 24) := ⟨⟨by decide +kernel, by decide +kernel⟩, List.mem_of_getElem? (i := 533) (by decide +kernel), List.mem_of_getElem? (i := 628) (by decide +kernel), List.mem_of_getElem? (i := 629) (by decide +kernel)⟩
theorem lw_p15 : lw_okq (⟨"BalanceRoomModel", "readHead", "()Z"⟩, 24) := ⟨⟨by decide +kernel, by decide +kernel⟩, List.mem_of_getElem? (i := 533) (by decide +kernel), List.mem_of_getElem? (i := 632) (by decide +kernel), List.mem_of_getElem? (i := 633) (by decide +kernel)⟩
def lw_privs_1 : List (MethodName × Nat) := [(⟨"BalanceRoom$Text", "fits", "(I)Z"⟩, 2), (⟨"BalanceRoom$Text", "figureAt", "(I)I"⟩, 2), (⟨"BalanceRoom$Text", "startOf", "(I)I"⟩, 2), (⟨"BalanceRoom$Ranks", "extended", "(ILBalanceRoom$Room;IZ)I"⟩, 3), (⟨"BalanceRoom$Fit", "put", "(LBalanceRoom$Room;II)V"⟩, 7), (⟨"BalanceRoom$Fit", "sweepAll", "(Z)Z"⟩, 7), (⟨"BalanceRoom$Fit", "sweep", "(II)V"⟩, 7), (⟨"BalanceRoom$Fit", "sweepRow", "(IIJ)V"⟩, 7), (⟨"BalanceRoom$Fit", "solvesWithout", "(LBalanceRoom$Room;I)Z"⟩, 7), (⟨"BalanceRoom", "holds", "(I)Z"⟩, 9), (⟨"BalanceRoom", "exchanged", "(II)Z"⟩, 9), (⟨"BalanceRoom", "removed", "(I)Z"⟩, 9), (⟨"BalanceRoom", "masterSet", "(I)Z"⟩, 9), (⟨"BalanceRoom", "drawReadings", "(I)V"⟩, 9), (⟨"BalanceRoomModel", "readRoom", "()I"⟩, 24), (⟨"BalanceRoomModel", "readHead", "()Z"⟩, 24)]
theorem lw_r1 : ∀ q ∈ lw_privs_1, lw_okq q := List.forall_mem_cons.mpr ⟨lw_p0, List.forall_mem_cons.mpr ⟨lw_p1, List.forall_mem_cons.mpr ⟨lw_p2, List.forall_mem_cons.mpr ⟨lw_p3, List.forall_mem_cons.mpr ⟨lw_p4, List.forall_mem_cons.mpr ⟨lw_p5, List.forall_mem_cons.mpr ⟨lw_p6, List.forall_mem_cons.mpr ⟨lw_p7, List.forall_mem_cons.mpr ⟨lw_p8, List.forall_mem_cons.mpr ⟨lw_p9, List.forall_mem_cons.mpr ⟨lw_p10, List.forall_mem_cons.mpr ⟨lw_p11, List.forall_mem_cons.mpr ⟨lw_p12, List.forall_mem_cons.mpr ⟨lw_p13, List.forall_mem_cons.mpr ⟨lw_p14, List.forall_mem_cons.mpr ⟨lw_p15, fun _ h => absurd h List.not_mem_nil⟩⟩⟩⟩⟩⟩⟩⟩⟩⟩⟩⟩⟩⟩⟩⟩
theorem lw_p16 : lw_okq (⟨"BalanceRoomModel", "figure", "(II)I"⟩, 24) := ⟨⟨by decide +kernel, by decide +kernel⟩, List.mem_of_getElem? (i := 533) (by decide +kernel), List.mem_of_getElem? (i := 636) (by decide +kernel), List.mem_of_getElem? (i := 637) (by decide +kernel)⟩
theorem lw_p17 : lw_okq (⟨"BalanceRoomModel", "readWeighing", "()Z"⟩, 24) := ⟨⟨by decide +kernel, by decide +kernel⟩, List.mem_of_getElem? (i := 533) (by decide +kernel), List.mem_of_getElem? (i := 640) (by decide +kernel), List.mem_of_getElem? (i := 641) (by decide +kernel)⟩
theorem lw_p18 : lw_okq (⟨"BalanceRoomModel", "sign", "(Z)I"⟩, 24) := ⟨⟨by decide +kernel, by decide +kernel⟩, List.mem_of_getElem? (i := 533) (by decide +kernel), List.mem_of_getElem? (i := 644) (by decide +kernel), List.mem_of_getElem? (i := 645) (by decide +kernel)⟩
theorem lw_p19 : lw_okq (⟨"BalanceRoomModel", "noWeighing", "(I)Z"⟩, 24) := ⟨⟨by decide +kernel, by decide +kernel⟩, List.mem_of_getElem? (i := 533) (by decide +kernel), List.mem_of_getElem? (i := 659) (by decide +kernel), List.mem_of_getElem? (i := 660) (by decide +kernel)⟩
theorem lw_p20 : lw_okq (⟨"BalanceRoomModel", "isCode", "(I)Z"⟩, 24) := ⟨⟨by decide +kernel, by decide +kernel⟩, List.mem_of_getElem? (i := 533) (by decide +kernel), List.mem_of_getElem? (i := 671) (by decide +kernel), List.mem_of_getElem? (i := 672) (by decide +kernel)⟩
theorem lw_p21 : lw_okq (⟨"BalanceRoomModel", "note", "()V"⟩, 24) := ⟨⟨by decide +kernel, by decide +kernel⟩, List.mem_of_getElem? (i := 533) (by decide +kernel), List.mem_of_getElem? (i := 680) (by decide +kernel), List.mem_of_getElem? (i := 681) (by decide +kernel)⟩
theorem lw_p22 : lw_okq (⟨"BalanceRoomModel", "rankOf", "([IIZ)I"⟩, 24) := ⟨⟨by decide +kernel, by decide +kernel⟩, List.mem_of_getElem? (i := 533) (by decide +kernel), List.mem_of_getElem? (i := 718) (by decide +kernel), List.mem_of_getElem? (i := 719) (by decide +kernel)⟩
theorem lw_p23 : lw_okq (⟨"BalanceRoomModel", "layGram", "([IIZ)V"⟩, 24) := ⟨⟨by decide +kernel, by decide +kernel⟩, List.mem_of_getElem? (i := 533) (by decide +kernel), List.mem_of_getElem? (i := 722) (by decide +kernel), List.mem_of_getElem? (i := 723) (by decide +kernel)⟩
theorem lw_p24 : lw_okq (⟨"BalanceRoomModel", "layColumns", "([IIZ)V"⟩, 24) := ⟨⟨by decide +kernel, by decide +kernel⟩, List.mem_of_getElem? (i := 533) (by decide +kernel), List.mem_of_getElem? (i := 729) (by decide +kernel), List.mem_of_getElem? (i := 730) (by decide +kernel)⟩
theorem lw_p25 : lw_okq (⟨"BalanceRoomModel", "panOf", "(II)I"⟩, 24) := ⟨⟨by decide +kernel, by decide +kernel⟩, List.mem_of_getElem? (i := 533) (by decide +kernel), List.mem_of_getElem? (i := 733) (by decide +kernel), List.mem_of_getElem? (i := 734) (by decide +kernel)⟩
theorem lw_p26 : lw_okq (⟨"BalanceRoomModel", "columns", "()I"⟩, 24) := ⟨⟨by decide +kernel, by decide +kernel⟩, List.mem_of_getElem? (i := 533) (by decide +kernel), List.mem_of_getElem? (i := 740) (by decide +kernel), List.mem_of_getElem? (i := 741) (by decide +kernel)⟩
theorem lw_p27 : lw_okq (⟨"BalanceRoomModel", "minor", "(II)J"⟩, 24) := ⟨⟨by decide +kernel, by decide +kernel⟩, List.mem_of_getElem? (i := 533) (by decide +kernel), List.mem_of_getElem? (i := 747) (by decide +kernel), List.mem_of_getElem? (i := 748) (by decide +kernel)⟩
theorem lw_p28 : lw_okq (⟨"BalanceRoomModel", "determinant", "(I)J"⟩, 24) := ⟨⟨by decide +kernel, by decide +kernel⟩, List.mem_of_getElem? (i := 533) (by decide +kernel), List.mem_of_getElem? (i := 751) (by decide +kernel), List.mem_of_getElem? (i := 752) (by decide +kernel)⟩
theorem lw_p29 : lw_okq (⟨"BalanceRoomModel", "noColumn", "(IZ)Z"⟩, 24) := ⟨⟨by decide +kernel, by decide +kernel⟩, List.mem_of_getElem? (i := 533) (by decide +kernel), List.mem_of_getElem? (i := 759) (by decide +kernel), List.mem_of_getElem? (i := 760) (by decide +kernel)⟩
theorem lw_p30 : lw_okq (⟨"BalanceRoomModel", "isLaid", "([IIZ)Z"⟩, 24) := ⟨⟨by decide +kernel, by decide +kernel⟩, List.mem_of_getElem? (i := 533) (by decide +kernel), List.mem_of_getElem? (i := 764) (by decide +kernel), List.mem_of_getElem? (i := 765) (by decide +kernel)⟩
theorem lw_p31 : lw_okq (⟨"BalanceRoomModel", "layFraction", "(JJ)V"⟩, 24) := ⟨⟨by decide +kernel, by decide +kernel⟩, List.mem_of_getElem? (i := 533) (by decide +kernel), List.mem_of_getElem? (i := 769) (by decide +kernel), List.mem_of_getElem? (i := 770) (by decide +kernel)⟩
def lw_privs_2 : List (MethodName × Nat) := [(⟨"BalanceRoomModel", "figure", "(II)I"⟩, 24), (⟨"BalanceRoomModel", "readWeighing", "()Z"⟩, 24), (⟨"BalanceRoomModel", "sign", "(Z)I"⟩, 24), (⟨"BalanceRoomModel", "noWeighing", "(I)Z"⟩, 24), (⟨"BalanceRoomModel", "isCode", "(I)Z"⟩, 24), (⟨"BalanceRoomModel", "note", "()V"⟩, 24), (⟨"BalanceRoomModel", "rankOf", "([IIZ)I"⟩, 24), (⟨"BalanceRoomModel", "layGram", "([IIZ)V"⟩, 24), (⟨"BalanceRoomModel", "layColumns", "([IIZ)V"⟩, 24), (⟨"BalanceRoomModel", "panOf", "(II)I"⟩, 24), (⟨"BalanceRoomModel", "columns", "()I"⟩, 24), (⟨"BalanceRoomModel", "minor", "(II)J"⟩, 24), (⟨"BalanceRoomModel", "determinant", "(I)J"⟩, 24), (⟨"BalanceRoomModel", "noColumn", "(IZ)Z"⟩, 24), (⟨"BalanceRoomModel", "isLaid", "([IIZ)Z"⟩, 24), (⟨"BalanceRoomModel", "layFraction", "(JJ)V"⟩, 24)]
theorem lw_r2 : ∀ q ∈ lw_privs_2, lw_okq q := List.forall_mem_cons.mpr ⟨lw_p16, List.forall_mem_cons.mpr ⟨lw_p17, List.forall_mem_cons.mpr ⟨lw_p18, List.forall_mem_cons.mpr ⟨lw_p19, List.forall_mem_cons.mpr ⟨lw_p20, List.forall_mem_cons.mpr ⟨lw_p21, List.forall_mem_cons.mpr ⟨lw_p22, List.forall_mem_cons.mpr ⟨lw_p23, List.forall_mem_cons.mpr ⟨lw_p24, List.forall_mem_cons.mpr ⟨lw_p25, List.forall_mem_cons.mpr ⟨lw_p26, List.forall_mem_cons.mpr ⟨lw_p27, List.forall_mem_cons.mpr ⟨lw_p28, List.forall_mem_cons.mpr ⟨lw_p29, List.forall_mem_cons.mpr ⟨lw_p30, List.forall_mem_cons.mpr ⟨lw_p31, fun _ h => absurd h List.not_mem_nil⟩⟩⟩⟩⟩⟩⟩⟩⟩⟩⟩⟩⟩⟩⟩⟩
theorem lw_p32 : lw_okq (⟨"BalanceRoomModel", "told", "(Z)J"⟩, 24) := ⟨⟨by decide +kernel, by decide +kernel⟩, List.mem_of_getElem? (i := 533) (by decide +kernel), List.mem_of_getElem? (i := 776) (by decide +kernel), List.mem_of_getElem? (i := 777) (by decide +kernel)⟩
theorem lw_p33 : lw_okq (⟨"BalanceRoomModel", "layTotal", "()V"⟩, 24) := ⟨⟨by decide +kernel, by decide +kernel⟩, List.mem_of_getElem? (i := 533) (by decide +kernel), List.mem_of_getElem? (i := 788) (by decide +kernel), List.mem_of_getElem? (i := 789) (by decide +kernel)⟩
theorem lw_p34 : lw_okq (⟨"BalanceRoomModel", "laySquares", "()V"⟩, 24) := ⟨⟨by decide +kernel, by decide +kernel⟩, List.mem_of_getElem? (i := 533) (by decide +kernel), List.mem_of_getElem? (i := 800) (by decide +kernel), List.mem_of_getElem? (i := 801) (by decide +kernel)⟩
theorem lw_p35 : lw_okq (⟨"BalanceRoomModel", "doubtfulOf", "([IZ)I"⟩, 24) := ⟨⟨by decide +kernel, by decide +kernel⟩, List.mem_of_getElem? (i := 533) (by decide +kernel), List.mem_of_getElem? (i := 816) (by decide +kernel), List.mem_of_getElem? (i := 817) (by decide +kernel)⟩
theorem lw_p36 : lw_okq (⟨"BalanceRoomModel", "does", "(III)Z"⟩, 24) := ⟨⟨by decide +kernel, by decide +kernel⟩, List.mem_of_getElem? (i := 533) (by decide +kernel), List.mem_of_getElem? (i := 833) (by decide +kernel), List.mem_of_getElem? (i := 834) (by decide +kernel)⟩
theorem lw_p37 : lw_okq (⟨"BalanceRoomModel", "isWorth", "(II)Z"⟩, 24) := ⟨⟨by decide +kernel, by decide +kernel⟩, List.mem_of_getElem? (i := 533) (by decide +kernel), List.mem_of_getElem? (i := 837) (by decide +kernel), List.mem_of_getElem? (i := 838) (by decide +kernel)⟩
def lw_privs_3 : List (MethodName × Nat) := [(⟨"BalanceRoomModel", "told", "(Z)J"⟩, 24), (⟨"BalanceRoomModel", "layTotal", "()V"⟩, 24), (⟨"BalanceRoomModel", "laySquares", "()V"⟩, 24), (⟨"BalanceRoomModel", "doubtfulOf", "([IZ)I"⟩, 24), (⟨"BalanceRoomModel", "does", "(III)Z"⟩, 24), (⟨"BalanceRoomModel", "isWorth", "(II)Z"⟩, 24)]
theorem lw_r3 : ∀ q ∈ lw_privs_3, lw_okq q := List.forall_mem_cons.mpr ⟨lw_p32, List.forall_mem_cons.mpr ⟨lw_p33, List.forall_mem_cons.mpr ⟨lw_p34, List.forall_mem_cons.mpr ⟨lw_p35, List.forall_mem_cons.mpr ⟨lw_p36, List.forall_mem_cons.mpr ⟨lw_p37, fun _ h => absurd h List.not_mem_nil⟩⟩⟩⟩⟩⟩
def lw_privs : List (MethodName × Nat) := lw_privs_1 ++ (lw_privs_2 ++ (lw_privs_3))
def lw_tbl : List Cond := k2_sels lw_privs ++ tables_1
theorem lw_privs_ok : ∀ q ∈ lw_privs, lw_okq q := by
  show ∀ q ∈ lw_privs_1 ++ (lw_privs_2 ++ (lw_privs_3)), lw_okq q
  exact List.forall_mem_append.mpr ⟨lw_r1, List.forall_mem_append.mpr ⟨lw_r2, lw_r3⟩⟩
def RX0 : String := "BalanceRoom$Acts"
def TX0 : u_T := fun k => match k with
  | 0 => ("BalanceRoom$Acts", "before", "[LBalanceRoom$Room;", true)
  | 1 => ("BalanceRoom$Acts", "oldest", "I", false)
  | _ => ("BalanceRoom$Acts", "size", "I", false)
def tyX0 : Nat → FieldType := fun k => match k with
  | 0 => .array (.object "BalanceRoom$Room")
  | 1 => .int
  | _ => .int
abbrev wsX00 : List Cond := u_ws RX0 TX0 3
theorem nmX0 : ∀ a, a < 3 → ∀ b, b < 3 → a ≠ b → (TX0 a).2.1 ≠ (TX0 b).2.1 := by decide +kernel
theorem tyX0_ok : ∀ k, k < 3 → parseFieldDescriptor (TX0 k).2.2.1 = some (tyX0 k) := by decide +kernel
abbrev cX0_init : ByteArray := prog_2_method_1_code
def yX0_init : MethodName := ⟨RX0, "<init>", "()V"⟩
abbrev cX0_remember : ByteArray := prog_2_method_2_code
def yX0_remember : MethodName := ⟨RX0, "remember", "(LBalanceRoom$Room;)V"⟩
abbrev cX0_takeBack : ByteArray := prog_2_method_3_code
def yX0_takeBack : MethodName := ⟨RX0, "takeBack", "(LBalanceRoom$Room;)V"⟩
abbrev cX0_forgetAll : ByteArray := prog_2_method_4_code
def yX0_forgetAll : MethodName := ⟨RX0, "forgetAll", "()V"⟩
def RX1 : String := "BalanceRoom$Fit"
def TX1 : u_T := fun k => match k with
  | 0 => ("BalanceRoom$Fit", "sums", "[[J", true)
  | 1 => ("BalanceRoom$Fit", "swept", "[[J", true)
  | 2 => ("BalanceRoom$Fit", "line", "[J", true)
  | 3 => ("BalanceRoom$Fit", "withDrift", "Z", false)
  | 4 => ("BalanceRoom$Fit", "weightsHere", "I", false)
  | 5 => ("BalanceRoom$Fit", "unknownsHere", "I", false)
  | _ => ("BalanceRoom$Fit", "below", "J", false)
def tyX1 : Nat → FieldType := fun k => match k with
  | 0 => .array (.array .long)
  | 1 => .array (.array .long)
  | 2 => .array .long
  | 3 => .boolean
  | 4 => .int
  | 5 => .int
  | _ => .long
abbrev wsX10 : List Cond := u_ws RX1 TX1 7
theorem nmX1 : ∀ a, a < 7 → ∀ b, b < 7 → a ≠ b → (TX1 a).2.1 ≠ (TX1 b).2.1 := by decide +kernel
theorem tyX1_ok : ∀ k, k < 7 → parseFieldDescriptor (TX1 k).2.2.1 = some (tyX1 k) := by decide +kernel
abbrev cX1_init : ByteArray := prog_3_method_1_code
def yX1_init : MethodName := ⟨RX1, "<init>", "()V"⟩
abbrev cX1_solves : ByteArray := prog_3_method_2_code
def yX1_solves : MethodName := ⟨RX1, "solves", "(LBalanceRoom$Room;Z)Z"⟩
abbrev cX1_solvesWith : ByteArray := prog_3_method_3_code
def yX1_solvesWith : MethodName := ⟨RX1, "solvesWith", "(LBalanceRoom$Room;I)Z"⟩
abbrev cX1_solvesWithout : ByteArray := prog_3_method_4_code
def yX1_solvesWithout : MethodName := ⟨RX1, "solvesWithout", "(LBalanceRoom$Room;I)Z"⟩
abbrev cX1_gather : ByteArray := prog_3_method_5_code
def yX1_gather : MethodName := ⟨RX1, "gather", "(LBalanceRoom$Room;Z)V"⟩
abbrev cX1_put : ByteArray := prog_3_method_6_code
def yX1_put : MethodName := ⟨RX1, "put", "(LBalanceRoom$Room;II)V"⟩
abbrev cX1_sweepAll : ByteArray := prog_3_method_7_code
def yX1_sweepAll : MethodName := ⟨RX1, "sweepAll", "(Z)Z"⟩
abbrev cX1_sweep : ByteArray := prog_3_method_8_code
def yX1_sweep : MethodName := ⟨RX1, "sweep", "(II)V"⟩
abbrev cX1_sweepRow : ByteArray := prog_3_method_9_code
def yX1_sweepRow : MethodName := ⟨RX1, "sweepRow", "(IIJ)V"⟩
abbrev cX1_valueAbove : ByteArray := prog_3_method_10_code
def yX1_valueAbove : MethodName := ⟨RX1, "valueAbove", "(I)J"⟩
abbrev cX1_spreadAbove : ByteArray := prog_3_method_11_code
def yX1_spreadAbove : MethodName := ⟨RX1, "spreadAbove", "(I)J"⟩
abbrev cX1_totalAbove : ByteArray := prog_3_method_12_code
def yX1_totalAbove : MethodName := ⟨RX1, "totalAbove", "()J"⟩
abbrev cX1_restAbove : ByteArray := prog_3_method_13_code
def yX1_restAbove : MethodName := ⟨RX1, "restAbove", "(LBalanceRoom$Room;I)J"⟩
abbrev cX1_squaresAbove : ByteArray := prog_3_method_14_code
def yX1_squaresAbove : MethodName := ⟨RX1, "squaresAbove", "()J"⟩
abbrev cX1_mostDoubtful : ByteArray := prog_3_method_15_code
def yX1_mostDoubtful : MethodName := ⟨RX1, "mostDoubtful", "(LBalanceRoom$Room;Z)I"⟩
abbrev cX1_thoseAlone : ByteArray := prog_3_method_16_code
def yX1_thoseAlone : MethodName := ⟨RX1, "thoseAlone", "(LBalanceRoom$Room;Z)I"⟩
def RX2 : String := "BalanceRoom$Ranks"
def TX2 : u_T := fun k => match k with
  | 0 => ("BalanceRoom$Ranks", "basis", "[[J", true)
  | 1 => ("BalanceRoom$Ranks", "leads", "[I", true)
  | _ => ("BalanceRoom$Ranks", "ofSet", "[I", true)
def tyX2 : Nat → FieldType := fun k => match k with
  | 0 => .array (.array .long)
  | 1 => .array .int
  | _ => .array .int
abbrev wsX20 : List Cond := u_ws RX2 TX2 3
theorem nmX2 : ∀ a, a < 3 → ∀ b, b < 3 → a ≠ b → (TX2 a).2.1 ≠ (TX2 b).2.1 := by decide +kernel
theorem tyX2_ok : ∀ k, k < 3 → parseFieldDescriptor (TX2 k).2.2.1 = some (tyX2 k) := by decide +kernel
abbrev cX2_init : ByteArray := prog_4_method_1_code
def yX2_init : MethodName := ⟨RX2, "<init>", "()V"⟩
abbrev cX2_ofAll : ByteArray := prog_4_method_2_code
def yX2_ofAll : MethodName := ⟨RX2, "ofAll", "(LBalanceRoom$Room;Z)I"⟩
abbrev cX2_ofEach : ByteArray := prog_4_method_3_code
def yX2_ofEach : MethodName := ⟨RX2, "ofEach", "(LBalanceRoom$Room;Z)V"⟩
abbrev cX2_extended : ByteArray := prog_4_method_4_code
def yX2_extended : MethodName := ⟨RX2, "extended", "(ILBalanceRoom$Room;IZ)I"⟩
abbrev cX2_reduce : ByteArray := prog_4_method_5_code
def yX2_reduce : MethodName := ⟨RX2, "reduce", "([J[JII)V"⟩
def RX3 : String := "BalanceRoom$Room"
def TX3 : u_T := fun k => match k with
  | 0 => ("BalanceRoom$Room", "weights", "I", false)
  | 1 => ("BalanceRoom$Room", "masterValue", "I", false)
  | 2 => ("BalanceRoom$Room", "weighings", "I", false)
  | 3 => ("BalanceRoom$Room", "codes", "[I", true)
  | _ => ("BalanceRoom$Room", "readings", "[I", true)
def tyX3 : Nat → FieldType := fun k => match k with
  | 0 => .int
  | 1 => .int
  | 2 => .int
  | 3 => .array .int
  | _ => .array .int
abbrev wsX30 : List Cond := u_ws RX3 TX3 5
theorem nmX3 : ∀ a, a < 5 → ∀ b, b < 5 → a ≠ b → (TX3 a).2.1 ≠ (TX3 b).2.1 := by decide +kernel
theorem tyX3_ok : ∀ k, k < 5 → parseFieldDescriptor (TX3 k).2.2.1 = some (tyX3 k) := by decide +kernel
abbrev cX3_init : ByteArray := prog_5_method_1_code
def yX3_init : MethodName := ⟨RX3, "<init>", "()V"⟩
abbrev cX3_copy : ByteArray := prog_5_method_2_code
def yX3_copy : MethodName := ⟨RX3, "copy", "(LBalanceRoom$Room;)V"⟩
abbrev cX3_takeFrom : ByteArray := prog_5_method_3_code
def yX3_takeFrom : MethodName := ⟨RX3, "takeFrom", "(LBalanceRoom$Text;)V"⟩
abbrev cX3_has : ByteArray := prog_5_method_4_code
def yX3_has : MethodName := ⟨RX3, "has", "(I)Z"⟩
abbrev cX3_unknowns : ByteArray := prog_5_method_5_code
def yX3_unknowns : MethodName := ⟨RX3, "unknowns", "(Z)I"⟩
abbrev cX3_hasUnknown : ByteArray := prog_5_method_6_code
def yX3_hasUnknown : MethodName := ⟨RX3, "hasUnknown", "(IZ)Z"⟩
abbrev cX3_append : ByteArray := prog_5_method_7_code
def yX3_append : MethodName := ⟨RX3, "append", "(II)V"⟩
abbrev cX3_remove : ByteArray := prog_5_method_8_code
def yX3_remove : MethodName := ⟨RX3, "remove", "(I)V"⟩
abbrev cX3_exchange : ByteArray := prog_5_method_9_code
def yX3_exchange : MethodName := ⟨RX3, "exchange", "(II)V"⟩
abbrev cX3_layOut : ByteArray := prog_5_method_10_code
def yX3_layOut : MethodName := ⟨RX3, "layOut", "(IZ[J)V"⟩
abbrev cX3_signOf : ByteArray := prog_5_method_11_code
def yX3_signOf : MethodName := ⟨RX3, "signOf", "(I)I"⟩
def RX4 : String := "BalanceRoom$Text"
def TX4 : u_T := fun k => match k with
  | 0 => ("BalanceRoom$Text", "letters", "[I", true)
  | _ => ("BalanceRoom$Text", "length", "I", false)
def tyX4 : Nat → FieldType := fun k => match k with
  | 0 => .array .int
  | _ => .int
abbrev wsX40 : List Cond := u_ws RX4 TX4 2
theorem nmX4 : ∀ a, a < 2 → ∀ b, b < 2 → a ≠ b → (TX4 a).2.1 ≠ (TX4 b).2.1 := by decide +kernel
theorem tyX4_ok : ∀ k, k < 2 → parseFieldDescriptor (TX4 k).2.2.1 = some (tyX4 k) := by decide +kernel
abbrev cX4_init : ByteArray := prog_6_method_1_code
def yX4_init : MethodName := ⟨RX4, "<init>", "()V"⟩
abbrev cX4_faultPlace : ByteArray := prog_6_method_2_code
def yX4_faultPlace : MethodName := ⟨RX4, "faultPlace", "()I"⟩
abbrev cX4_fits : ByteArray := prog_6_method_3_code
def yX4_fits : MethodName := ⟨RX4, "fits", "(I)Z"⟩
abbrev cX4_isFigure : ByteArray := prog_6_method_4_code
def yX4_isFigure : MethodName := ⟨RX4, "isFigure", "(I)Z"⟩
abbrev cX4_isSign : ByteArray := prog_6_method_5_code
def yX4_isSign : MethodName := ⟨RX4, "isSign", "(I)Z"⟩
abbrev cX4_weightsTold : ByteArray := prog_6_method_6_code
def yX4_weightsTold : MethodName := ⟨RX4, "weightsTold", "()I"⟩
abbrev cX4_lettersEach : ByteArray := prog_6_method_7_code
def yX4_lettersEach : MethodName := ⟨RX4, "lettersEach", "()I"⟩
abbrev cX4_weighingsTold : ByteArray := prog_6_method_8_code
def yX4_weighingsTold : MethodName := ⟨RX4, "weighingsTold", "()I"⟩
abbrev cX4_masterTold : ByteArray := prog_6_method_9_code
def yX4_masterTold : MethodName := ⟨RX4, "masterTold", "()I"⟩
abbrev cX4_codeTold : ByteArray := prog_6_method_10_code
def yX4_codeTold : MethodName := ⟨RX4, "codeTold", "(I)I"⟩
abbrev cX4_readingTold : ByteArray := prog_6_method_11_code
def yX4_readingTold : MethodName := ⟨RX4, "readingTold", "(I)I"⟩
abbrev cX4_startOf : ByteArray := prog_6_method_12_code
def yX4_startOf : MethodName := ⟨RX4, "startOf", "(I)I"⟩
abbrev cX4_figureAt : ByteArray := prog_6_method_13_code
def yX4_figureAt : MethodName := ⟨RX4, "figureAt", "(I)I"⟩
def RX5 : String := "BalanceRoom"
def TX5 : u_T := fun k => match k with
  | 0 => ("BalanceRoom", "text", "LBalanceRoom$Text;", true)
  | 1 => ("BalanceRoom", "here", "LBalanceRoom$Room;", true)
  | 2 => ("BalanceRoom", "trial", "LBalanceRoom$Room;", true)
  | 3 => ("BalanceRoom", "acts", "LBalanceRoom$Acts;", true)
  | 4 => ("BalanceRoom", "slots", "[LBalanceRoom$Room;", true)
  | 5 => ("BalanceRoom", "filled", "[Z", true)
  | 6 => ("BalanceRoom", "fit", "LBalanceRoom$Fit;", true)
  | 7 => ("BalanceRoom", "ranks", "LBalanceRoom$Ranks;", true)
  | _ => ("BalanceRoom", "seedNow", "J", false)
def tyX5 : Nat → FieldType := fun k => match k with
  | 0 => .object "BalanceRoom$Text"
  | 1 => .object "BalanceRoom$Room"
  | 2 => .object "BalanceRoom$Room"
  | 3 => .object "BalanceRoom$Acts"
  | 4 => .array (.object "BalanceRoom$Room")
  | 5 => .array .boolean
  | 6 => .object "BalanceRoom$Fit"
  | 7 => .object "BalanceRoom$Ranks"
  | _ => .long
abbrev wsX50 : List Cond := u_ws RX5 TX5 9
theorem nmX5 : ∀ a, a < 9 → ∀ b, b < 9 → a ≠ b → (TX5 a).2.1 ≠ (TX5 b).2.1 := by decide +kernel
theorem tyX5_ok : ∀ k, k < 9 → parseFieldDescriptor (TX5 k).2.2.1 = some (tyX5 k) := by decide +kernel
abbrev cX5_init : ByteArray := prog_1_method_1_code
def yX5_init : MethodName := ⟨RX5, "<init>", "()V"⟩
abbrev cX5_write : ByteArray := prog_1_method_2_code
def yX5_write : MethodName := ⟨RX5, "write", "(I)I"⟩
abbrev cX5_wipe : ByteArray := prog_1_method_3_code
def yX5_wipe : MethodName := ⟨RX5, "wipe", "()I"⟩
abbrev cX5_fault : ByteArray := prog_1_method_4_code
def yX5_fault : MethodName := ⟨RX5, "fault", "()I"⟩
abbrev cX5_room : ByteArray := prog_1_method_5_code
def yX5_room : MethodName := ⟨RX5, "room", "()I"⟩
abbrev cX5_code : ByteArray := prog_1_method_6_code
def yX5_code : MethodName := ⟨RX5, "code", "(I)I"⟩
abbrev cX5_reading : ByteArray := prog_1_method_7_code
def yX5_reading : MethodName := ⟨RX5, "reading", "(I)I"⟩
abbrev cX5_weigh : ByteArray := prog_1_method_8_code
def yX5_weigh : MethodName := ⟨RX5, "weigh", "(II)I"⟩
abbrev cX5_take : ByteArray := prog_1_method_9_code
def yX5_take : MethodName := ⟨RX5, "take", "(I)I"⟩
abbrev cX5_swap : ByteArray := prog_1_method_10_code
def yX5_swap : MethodName := ⟨RX5, "swap", "(II)I"⟩
abbrev cX5_read : ByteArray := prog_1_method_11_code
def yX5_read : MethodName := ⟨RX5, "read", "(II)I"⟩
abbrev cX5_master : ByteArray := prog_1_method_12_code
def yX5_master : MethodName := ⟨RX5, "master", "(I)I"⟩
abbrev cX5_undo : ByteArray := prog_1_method_13_code
def yX5_undo : MethodName := ⟨RX5, "undo", "()I"⟩
abbrev cX5_rank : ByteArray := prog_1_method_14_code
def yX5_rank : MethodName := ⟨RX5, "rank", "(Z)I"⟩
abbrev cX5_value : ByteArray := prog_1_method_15_code
def yX5_value : MethodName := ⟨RX5, "value", "(IZZ)J"⟩
abbrev cX5_spread : ByteArray := prog_1_method_16_code
def yX5_spread : MethodName := ⟨RX5, "spread", "(IZZ)J"⟩
abbrev cX5_total : ByteArray := prog_1_method_17_code
def yX5_total : MethodName := ⟨RX5, "total", "(ZZ)J"⟩
abbrev cX5_rest : ByteArray := prog_1_method_18_code
def yX5_rest : MethodName := ⟨RX5, "rest", "(IZZ)J"⟩
abbrev cX5_squares : ByteArray := prog_1_method_19_code
def yX5_squares : MethodName := ⟨RX5, "squares", "(ZZ)J"⟩
abbrev cX5_next : ByteArray := prog_1_method_20_code
def yX5_next : MethodName := ⟨RX5, "next", "(Z)I"⟩
abbrev cX5_better : ByteArray := prog_1_method_21_code
def yX5_better : MethodName := ⟨RX5, "better", "()I"⟩
abbrev cX5_doubtful : ByteArray := prog_1_method_22_code
def yX5_doubtful : MethodName := ⟨RX5, "doubtful", "(Z)I"⟩
abbrev cX5_wrong : ByteArray := prog_1_method_23_code
def yX5_wrong : MethodName := ⟨RX5, "wrong", "(Z)I"⟩
abbrev cX5_judge : ByteArray := prog_1_method_24_code
def yX5_judge : MethodName := ⟨RX5, "judge", "(IJ)I"⟩
abbrev cX5_share : ByteArray := prog_1_method_25_code
def yX5_share : MethodName := ⟨RX5, "share", "(IZZ)I"⟩
abbrev cX5_lost : ByteArray := prog_1_method_26_code
def yX5_lost : MethodName := ⟨RX5, "lost", "(IZZ)I"⟩
abbrev cX5_seed : ByteArray := prog_1_method_27_code
def yX5_seed : MethodName := ⟨RX5, "seed", "(J)J"⟩
abbrev cX5_drawn : ByteArray := prog_1_method_28_code
def yX5_drawn : MethodName := ⟨RX5, "drawn", "(I)I"⟩
abbrev cX5_keep : ByteArray := prog_1_method_29_code
def yX5_keep : MethodName := ⟨RX5, "keep", "(I)I"⟩
abbrev cX5_again : ByteArray := prog_1_method_30_code
def yX5_again : MethodName := ⟨RX5, "again", "(I)I"⟩
abbrev cX5_count : ByteArray := prog_1_method_31_code
def yX5_count : MethodName := ⟨RX5, "count", "(I)I"⟩
abbrev cX5_holds : ByteArray := prog_1_method_32_code
def yX5_holds : MethodName := ⟨RX5, "holds", "(I)Z"⟩
abbrev cX5_exchanged : ByteArray := prog_1_method_33_code
def yX5_exchanged : MethodName := ⟨RX5, "exchanged", "(II)Z"⟩
abbrev cX5_removed : ByteArray := prog_1_method_34_code
def yX5_removed : MethodName := ⟨RX5, "removed", "(I)Z"⟩
abbrev cX5_masterSet : ByteArray := prog_1_method_35_code
def yX5_masterSet : MethodName := ⟨RX5, "masterSet", "(I)Z"⟩
abbrev cX5_drawReadings : ByteArray := prog_1_method_36_code
def yX5_drawReadings : MethodName := ⟨RX5, "drawReadings", "(I)V"⟩
abbrev cX5_isReading : ByteArray := prog_1_method_37_code
def yX5_isReading : MethodName := ⟨RX5, "isReading", "(I)Z"⟩
abbrev cX5_isCode : ByteArray := prog_1_method_38_code
def yX5_isCode : MethodName := ⟨RX5, "isCode", "(II)Z"⟩
abbrev cX5_numbered : ByteArray := prog_1_method_39_code
def yX5_numbered : MethodName := ⟨RX5, "numbered", "(II)I"⟩
abbrev cX5_power : ByteArray := prog_1_method_40_code
def yX5_power : MethodName := ⟨RX5, "power", "(II)I"⟩
abbrev cX5_isLess : ByteArray := prog_1_method_41_code
def yX5_isLess : MethodName := ⟨RX5, "isLess", "(JJJJ)Z"⟩
abbrev cX5_told : ByteArray := prog_1_method_42_code
def yX5_told : MethodName := ⟨RX5, "told", "(JJZ)J"⟩
abbrev cX5_commonDivisor : ByteArray := prog_1_method_43_code
def yX5_commonDivisor : MethodName := ⟨RX5, "commonDivisor", "(JJ)J"⟩
def RX6 : String := "BalanceRoomModel"
def TX6 : u_T := fun k => match k with
  | 0 => ("BalanceRoomModel", "thrown", "I", false)
  | 1 => ("BalanceRoomModel", "text", "[I", true)
  | 2 => ("BalanceRoomModel", "textSize", "I", false)
  | 3 => ("BalanceRoomModel", "place", "I", false)
  | 4 => ("BalanceRoomModel", "weights", "I", false)
  | 5 => ("BalanceRoomModel", "readWeights", "I", false)
  | 6 => ("BalanceRoomModel", "readPage", "[I", true)
  | 7 => ("BalanceRoomModel", "page", "[I", true)
  | 8 => ("BalanceRoomModel", "trial", "[I", true)
  | 9 => ("BalanceRoomModel", "other", "[I", true)
  | 10 => ("BalanceRoomModel", "book", "[I", true)
  | 11 => ("BalanceRoomModel", "doings", "I", false)
  | 12 => ("BalanceRoomModel", "kept", "[I", true)
  | 13 => ("BalanceRoomModel", "isKept", "[Z", true)
  | 14 => ("BalanceRoomModel", "seed", "J", false)
  | 15 => ("BalanceRoomModel", "wide", "I", false)
  | 16 => ("BalanceRoomModel", "gram", "[J", true)
  | 17 => ("BalanceRoomModel", "right", "[J", true)
  | 18 => ("BalanceRoomModel", "squaresOfAll", "J", false)
  | 19 => ("BalanceRoomModel", "work", "[J", true)
  | 20 => ("BalanceRoomModel", "chosen", "[I", true)
  | 21 => ("BalanceRoomModel", "column", "[I", true)
  | 22 => ("BalanceRoomModel", "up", "J", false)
  | _ => ("BalanceRoomModel", "low", "J", false)
def tyX6 : Nat → FieldType := fun k => match k with
  | 0 => .int
  | 1 => .array .int
  | 2 => .int
  | 3 => .int
  | 4 => .int
  | 5 => .int
  | 6 => .array .int
  | 7 => .array .int
  | 8 => .array .int
  | 9 => .array .int
  | 10 => .array .int
  | 11 => .int
  | 12 => .array .int
  | 13 => .array .boolean
  | 14 => .long
  | 15 => .int
  | 16 => .array .long
  | 17 => .array .long
  | 18 => .long
  | 19 => .array .long
  | 20 => .array .int
  | 21 => .array .int
  | 22 => .long
  | _ => .long
abbrev wsX60 : List Cond := u_ws RX6 TX6 24
theorem nmX6 : ∀ a, a < 24 → ∀ b, b < 24 → a ≠ b → (TX6 a).2.1 ≠ (TX6 b).2.1 := by decide +kernel
theorem tyX6_ok : ∀ k, k < 24 → parseFieldDescriptor (TX6 k).2.2.1 = some (tyX6 k) := by decide +kernel
abbrev cX6_init : ByteArray := prog_8_method_2_code
def yX6_init : MethodName := ⟨RX6, "<init>", "()V"⟩
abbrev cX6_in : ByteArray := prog_8_method_3_code
def yX6_in : MethodName := ⟨RX6, "in", "(JJJ)Z"⟩
abbrev cX6_has : ByteArray := prog_8_method_4_code
def yX6_has : MethodName := ⟨RX6, "has", "(II)Z"⟩
abbrev cX6_ones : ByteArray := prog_8_method_5_code
def yX6_ones : MethodName := ⟨RX6, "ones", "(I)I"⟩
abbrev cX6_power : ByteArray := prog_8_method_6_code
def yX6_power : MethodName := ⟨RX6, "power", "(II)I"⟩
abbrev cX6_copy : ByteArray := prog_8_method_7_code
def yX6_copy : MethodName := ⟨RX6, "copy", "([I[I)V"⟩
abbrev cX6_noWeighing : ByteArray := prog_8_method_8_code
def yX6_noWeighing : MethodName := ⟨RX6, "noWeighing", "(I)Z"⟩
abbrev cX6_allOf : ByteArray := prog_8_method_9_code
def yX6_allOf : MethodName := ⟨RX6, "allOf", "([I)I"⟩
abbrev cX6_write : ByteArray := prog_8_method_10_code
def yX6_write : MethodName := ⟨RX6, "write", "(I)I"⟩
abbrev cX6_wipe : ByteArray := prog_8_method_11_code
def yX6_wipe : MethodName := ⟨RX6, "wipe", "()I"⟩
abbrev cX6_figure : ByteArray := prog_8_method_12_code
def yX6_figure : MethodName := ⟨RX6, "figure", "(II)I"⟩
abbrev cX6_sign : ByteArray := prog_8_method_13_code
def yX6_sign : MethodName := ⟨RX6, "sign", "(Z)I"⟩
abbrev cX6_readHead : ByteArray := prog_8_method_14_code
def yX6_readHead : MethodName := ⟨RX6, "readHead", "()Z"⟩
abbrev cX6_readWeighing : ByteArray := prog_8_method_15_code
def yX6_readWeighing : MethodName := ⟨RX6, "readWeighing", "()Z"⟩
abbrev cX6_readRoom : ByteArray := prog_8_method_16_code
def yX6_readRoom : MethodName := ⟨RX6, "readRoom", "()I"⟩
abbrev cX6_fault : ByteArray := prog_8_method_17_code
def yX6_fault : MethodName := ⟨RX6, "fault", "()I"⟩
abbrev cX6_room : ByteArray := prog_8_method_18_code
def yX6_room : MethodName := ⟨RX6, "room", "()I"⟩
abbrev cX6_code : ByteArray := prog_8_method_19_code
def yX6_code : MethodName := ⟨RX6, "code", "(I)I"⟩
abbrev cX6_reading : ByteArray := prog_8_method_20_code
def yX6_reading : MethodName := ⟨RX6, "reading", "(I)I"⟩
abbrev cX6_note : ByteArray := prog_8_method_21_code
def yX6_note : MethodName := ⟨RX6, "note", "()V"⟩
abbrev cX6_isCode : ByteArray := prog_8_method_22_code
def yX6_isCode : MethodName := ⟨RX6, "isCode", "(I)Z"⟩
abbrev cX6_weigh : ByteArray := prog_8_method_23_code
def yX6_weigh : MethodName := ⟨RX6, "weigh", "(II)I"⟩
abbrev cX6_takeOn : ByteArray := prog_8_method_24_code
def yX6_takeOn : MethodName := ⟨RX6, "takeOn", "([II)V"⟩
abbrev cX6_swapOn : ByteArray := prog_8_method_25_code
def yX6_swapOn : MethodName := ⟨RX6, "swapOn", "([III)V"⟩
abbrev cX6_take : ByteArray := prog_8_method_26_code
def yX6_take : MethodName := ⟨RX6, "take", "(I)I"⟩
abbrev cX6_swap : ByteArray := prog_8_method_27_code
def yX6_swap : MethodName := ⟨RX6, "swap", "(II)I"⟩
abbrev cX6_read : ByteArray := prog_8_method_28_code
def yX6_read : MethodName := ⟨RX6, "read", "(II)I"⟩
abbrev cX6_master : ByteArray := prog_8_method_29_code
def yX6_master : MethodName := ⟨RX6, "master", "(I)I"⟩
abbrev cX6_undo : ByteArray := prog_8_method_30_code
def yX6_undo : MethodName := ⟨RX6, "undo", "()I"⟩
abbrev cX6_panOf : ByteArray := prog_8_method_31_code
def yX6_panOf : MethodName := ⟨RX6, "panOf", "(II)I"⟩
abbrev cX6_layColumns : ByteArray := prog_8_method_32_code
def yX6_layColumns : MethodName := ⟨RX6, "layColumns", "([IIZ)V"⟩
abbrev cX6_pureOf : ByteArray := prog_8_method_33_code
def yX6_pureOf : MethodName := ⟨RX6, "pureOf", "([III)I"⟩
abbrev cX6_layGram : ByteArray := prog_8_method_34_code
def yX6_layGram : MethodName := ⟨RX6, "layGram", "([IIZ)V"⟩
abbrev cX6_determinant : ByteArray := prog_8_method_35_code
def yX6_determinant : MethodName := ⟨RX6, "determinant", "(I)J"⟩
abbrev cX6_minor : ByteArray := prog_8_method_36_code
def yX6_minor : MethodName := ⟨RX6, "minor", "(II)J"⟩
abbrev cX6_columns : ByteArray := prog_8_method_37_code
def yX6_columns : MethodName := ⟨RX6, "columns", "()I"⟩
abbrev cX6_rankOf : ByteArray := prog_8_method_38_code
def yX6_rankOf : MethodName := ⟨RX6, "rankOf", "([IIZ)I"⟩
abbrev cX6_isLaid : ByteArray := prog_8_method_39_code
def yX6_isLaid : MethodName := ⟨RX6, "isLaid", "([IIZ)Z"⟩
abbrev cX6_divisor : ByteArray := prog_8_method_40_code
def yX6_divisor : MethodName := ⟨RX6, "divisor", "(JJ)J"⟩
abbrev cX6_layFraction : ByteArray := prog_8_method_41_code
def yX6_layFraction : MethodName := ⟨RX6, "layFraction", "(JJ)V"⟩
abbrev cX6_told : ByteArray := prog_8_method_42_code
def yX6_told : MethodName := ⟨RX6, "told", "(Z)J"⟩
abbrev cX6_layTotal : ByteArray := prog_8_method_43_code
def yX6_layTotal : MethodName := ⟨RX6, "layTotal", "()V"⟩
abbrev cX6_laySquares : ByteArray := prog_8_method_44_code
def yX6_laySquares : MethodName := ⟨RX6, "laySquares", "()V"⟩
abbrev cX6_rank : ByteArray := prog_8_method_45_code
def yX6_rank : MethodName := ⟨RX6, "rank", "(Z)I"⟩
abbrev cX6_noColumn : ByteArray := prog_8_method_46_code
def yX6_noColumn : MethodName := ⟨RX6, "noColumn", "(IZ)Z"⟩
abbrev cX6_value : ByteArray := prog_8_method_47_code
def yX6_value : MethodName := ⟨RX6, "value", "(IZZ)J"⟩
abbrev cX6_spread : ByteArray := prog_8_method_48_code
def yX6_spread : MethodName := ⟨RX6, "spread", "(IZZ)J"⟩
abbrev cX6_total : ByteArray := prog_8_method_49_code
def yX6_total : MethodName := ⟨RX6, "total", "(ZZ)J"⟩
abbrev cX6_rest : ByteArray := prog_8_method_50_code
def yX6_rest : MethodName := ⟨RX6, "rest", "(IZZ)J"⟩
abbrev cX6_squares : ByteArray := prog_8_method_51_code
def yX6_squares : MethodName := ⟨RX6, "squares", "(ZZ)J"⟩
abbrev cX6_next : ByteArray := prog_8_method_52_code
def yX6_next : MethodName := ⟨RX6, "next", "(Z)I"⟩
abbrev cX6_better : ByteArray := prog_8_method_53_code
def yX6_better : MethodName := ⟨RX6, "better", "()I"⟩
abbrev cX6_doubtfulOf : ByteArray := prog_8_method_54_code
def yX6_doubtfulOf : MethodName := ⟨RX6, "doubtfulOf", "([IZ)I"⟩
abbrev cX6_doubtful : ByteArray := prog_8_method_55_code
def yX6_doubtful : MethodName := ⟨RX6, "doubtful", "(Z)I"⟩
abbrev cX6_wrong : ByteArray := prog_8_method_56_code
def yX6_wrong : MethodName := ⟨RX6, "wrong", "(Z)I"⟩
abbrev cX6_isWorth : ByteArray := prog_8_method_57_code
def yX6_isWorth : MethodName := ⟨RX6, "isWorth", "(II)Z"⟩
abbrev cX6_does : ByteArray := prog_8_method_58_code
def yX6_does : MethodName := ⟨RX6, "does", "(III)Z"⟩
abbrev cX6_longPower : ByteArray := prog_8_method_59_code
def yX6_longPower : MethodName := ⟨RX6, "longPower", "(JI)J"⟩
abbrev cX6_judge : ByteArray := prog_8_method_60_code
def yX6_judge : MethodName := ⟨RX6, "judge", "(IJ)I"⟩
abbrev cX6_factorial : ByteArray := prog_8_method_61_code
def yX6_factorial : MethodName := ⟨RX6, "factorial", "(I)I"⟩
abbrev cX6_share : ByteArray := prog_8_method_62_code
def yX6_share : MethodName := ⟨RX6, "share", "(IZZ)I"⟩
abbrev cX6_lost : ByteArray := prog_8_method_63_code
def yX6_lost : MethodName := ⟨RX6, "lost", "(IZZ)I"⟩
abbrev cX6_seed : ByteArray := prog_8_method_64_code
def yX6_seed : MethodName := ⟨RX6, "seed", "(J)J"⟩
abbrev cX6_drawn : ByteArray := prog_8_method_65_code
def yX6_drawn : MethodName := ⟨RX6, "drawn", "(I)I"⟩
abbrev cX6_keep : ByteArray := prog_8_method_66_code
def yX6_keep : MethodName := ⟨RX6, "keep", "(I)I"⟩
abbrev cX6_again : ByteArray := prog_8_method_67_code
def yX6_again : MethodName := ⟨RX6, "again", "(I)I"⟩
abbrev cX6_count : ByteArray := prog_8_method_68_code
def yX6_count : MethodName := ⟨RX6, "count", "(I)I"⟩
def RJ6 : String := "java/lang/Integer"
def TJ6 : u_T := fun k => match k with
  | _ => ("", "", "", false)
def tyJ6 : Nat → FieldType := fun k => match k with
  | _ => .int
abbrev wsJ60 : List Cond := u_ws RJ6 TJ6 0
theorem nmJ6 : ∀ a, a < 0 → ∀ b, b < 0 → a ≠ b → (TJ6 a).2.1 ≠ (TJ6 b).2.1 := by decide +kernel
theorem tyJ6_ok : ∀ k, k < 0 → parseFieldDescriptor (TJ6 k).2.2.1 = some (tyJ6 k) := by decide +kernel
abbrev cJ6_bitCount_0f7a4 : ByteArray := prog_9_method_49_code
def yJ6_bitCount_0f7a4 : MethodName := ⟨RJ6, "bitCount", "(I)I"⟩
def RJ9 : String := "java/lang/Math"
def TJ9 : u_T := fun k => match k with
  | _ => ("", "", "", false)
def tyJ9 : Nat → FieldType := fun k => match k with
  | _ => .int
abbrev wsJ90 : List Cond := u_ws RJ9 TJ9 0
theorem nmJ9 : ∀ a, a < 0 → ∀ b, b < 0 → a ≠ b → (TJ9 a).2.1 ≠ (TJ9 b).2.1 := by decide +kernel
theorem tyJ9_ok : ∀ k, k < 0 → parseFieldDescriptor (TJ9 k).2.2.1 = some (tyJ9 k) := by decide +kernel
abbrev cJ9_abs_067f4 : ByteArray := prog_10_method_61_code
def yJ9_abs_067f4 : MethodName := ⟨RJ9, "abs", "(J)J"⟩
abbrev cJ9_min_7cf53 : ByteArray := prog_10_method_69_code
def yJ9_min_7cf53 : MethodName := ⟨RJ9, "min", "(II)I"⟩
def RJ10 : String := "java/lang/System"
def TJ10 : u_T := fun k => match k with
  | _ => ("", "", "", false)
def tyJ10 : Nat → FieldType := fun k => match k with
  | _ => .int
abbrev wsJ100 : List Cond := u_ws RJ10 TJ10 0
theorem nmJ10 : ∀ a, a < 0 → ∀ b, b < 0 → a ≠ b → (TJ10 a).2.1 ≠ (TJ10 b).2.1 := by decide +kernel
theorem tyJ10_ok : ∀ k, k < 0 → parseFieldDescriptor (TJ10 k).2.2.1 = some (tyJ10 k) := by decide +kernel
def RL : String := "BalanceRoomLaw"
abbrev cL_law : ByteArray := code
def yL_law : MethodName := ⟨RL, "law", "([I)Z"⟩
abbrev vwCl : List vw_C := [(RX0, TX0, 3), (RX1, TX1, 7), (RX2, TX2, 3), (RX3, TX3, 5), (RX4, TX4, 2), (RX5, TX5, 9), (RX6, TX6, 24)]
end
section
/-- the words that every contract stands on -/
def zU : List Cond := lw_tbl.filter goodWord
theorem zU_i {i : Nat} {w : Cond} (h : lw_tbl[i]? = some w) (g : goodWord w = true) : w ∈ zU := List.mem_filter.mpr ⟨List.mem_of_getElem? h, g⟩
theorem zU_good {w : Cond} (h : w ∈ zU) : (w.onTables && w.keeps) = true ∨ ∃ ty, w = .arrayClass ty := good_of_word (List.mem_filter.mp h).2
theorem zU_lw {w : Cond} (h : w ∈ zU) : w ∈ lw_tbl := (List.mem_filter.mp h).1
theorem zw_0 : (Jvm.Cond.selects "BalanceRoom$Text" ({ cls := "BalanceRoom$Text", name := "fits", desc := "(I)Z" } : Jvm.MethodName) ({ cls := "BalanceRoom$Text", name := "fits", desc := "(I)Z" } : Jvm.MethodName)) ∈ zU := zU_i (i := 0) (by decide +kernel) (by decide +kernel)
theorem zw_1 : (Jvm.Cond.selects "BalanceRoom$Text" ({ cls := "BalanceRoom$Text", name := "figureAt", desc := "(I)I" } : Jvm.MethodName) ({ cls := "BalanceRoom$Text", name := "figureAt", desc := "(I)I" } : Jvm.MethodName)) ∈ zU := zU_i (i := 1) (by decide +kernel) (by decide +kernel)
theorem zw_2 : (Jvm.Cond.selects "BalanceRoom$Text" ({ cls := "BalanceRoom$Text", name := "startOf", desc := "(I)I" } : Jvm.MethodName) ({ cls := "BalanceRoom$Text", name := "startOf", desc := "(I)I" } : Jvm.MethodName)) ∈ zU := zU_i (i := 2) (by decide +kernel) (by decide +kernel)
theorem zw_3 : (Jvm.Cond.selects "BalanceRoom$Ranks" ({ cls := "BalanceRoom$Ranks", name := "extended", desc := "(ILBalanceRoom$Room;IZ)I" } : Jvm.MethodName) ({ cls := "BalanceRoom$Ranks", name := "extended", desc := "(ILBalanceRoom$Room;IZ)I" } : Jvm.MethodName)) ∈ zU := zU_i (i := 3) (by decide +kernel) (by decide +kernel)
theorem zw_4 : (Jvm.Cond.selects "BalanceRoom$Fit" ({ cls := "BalanceRoom$Fit", name := "put", desc := "(LBalanceRoom$Room;II)V" } : Jvm.MethodName) ({ cls := "BalanceRoom$Fit", name := "put", desc := "(LBalanceRoom$Room;II)V" } : Jvm.MethodName)) ∈ zU := zU_i (i := 4) (by decide +kernel) (by decide +kernel)
theorem zw_5 : (Jvm.Cond.selects "BalanceRoom$Fit" ({ cls := "BalanceRoom$Fit", name := "sweepAll", desc := "(Z)Z" } : Jvm.MethodName) ({ cls := "BalanceRoom$Fit", name := "sweepAll", desc := "(Z)Z" } : Jvm.MethodName)) ∈ zU := zU_i (i := 5) (by decide +kernel) (by decide +kernel)
theorem zw_6 : (Jvm.Cond.selects "BalanceRoom$Fit" ({ cls := "BalanceRoom$Fit", name := "sweep", desc := "(II)V" } : Jvm.MethodName) ({ cls := "BalanceRoom$Fit", name := "sweep", desc := "(II)V" } : Jvm.MethodName)) ∈ zU := zU_i (i := 6) (by decide +kernel) (by decide +kernel)
theorem zw_7 : (Jvm.Cond.selects "BalanceRoom$Fit" ({ cls := "BalanceRoom$Fit", name := "sweepRow", desc := "(IIJ)V" } : Jvm.MethodName) ({ cls := "BalanceRoom$Fit", name := "sweepRow", desc := "(IIJ)V" } : Jvm.MethodName)) ∈ zU := zU_i (i := 7) (by decide +kernel) (by decide +kernel)
theorem zw_8 : (Jvm.Cond.selects "BalanceRoom$Fit" ({ cls := "BalanceRoom$Fit", name := "solvesWithout", desc := "(LBalanceRoom$Room;I)Z" } : Jvm.MethodName) ({ cls := "BalanceRoom$Fit", name := "solvesWithout", desc := "(LBalanceRoom$Room;I)Z" } : Jvm.MethodName)) ∈ zU := zU_i (i := 8) (by decide +kernel) (by decide +kernel)
theorem zw_9 : (Jvm.Cond.selects "BalanceRoom" ({ cls := "BalanceRoom", name := "holds", desc := "(I)Z" } : Jvm.MethodName) ({ cls := "BalanceRoom", name := "holds", desc := "(I)Z" } : Jvm.MethodName)) ∈ zU := zU_i (i := 9) (by decide +kernel) (by decide +kernel)
theorem zw_10 : (Jvm.Cond.selects "BalanceRoom" ({ cls := "BalanceRoom", name := "exchanged", desc := "(II)Z" } : Jvm.MethodName) ({ cls := "BalanceRoom", name := "exchanged", desc := "(II)Z" } : Jvm.MethodName)) ∈ zU := zU_i (i := 10) (by decide +kernel) (by decide +kernel)
theorem zw_11 : (Jvm.Cond.selects "BalanceRoom" ({ cls := "BalanceRoom", name := "removed", desc := "(I)Z" } : Jvm.MethodName) ({ cls := "BalanceRoom", name := "removed", desc := "(I)Z" } : Jvm.MethodName)) ∈ zU := zU_i (i := 11) (by decide +kernel) (by decide +kernel)
theorem zw_12 : (Jvm.Cond.selects "BalanceRoom" ({ cls := "BalanceRoom", name := "masterSet", desc := "(I)Z" } : Jvm.MethodName) ({ cls := "BalanceRoom", name := "masterSet", desc := "(I)Z" } : Jvm.MethodName)) ∈ zU := zU_i (i := 12) (by decide +kernel) (by decide +kernel)
theorem zw_13 : (Jvm.Cond.selects "BalanceRoom" ({ cls := "BalanceRoom", name := "drawReadings", desc := "(I)V" } : Jvm.MethodName) ({ cls := "BalanceRoom", name := "drawReadings", desc := "(I)V" } : Jvm.MethodName)) ∈ zU := zU_i (i := 13) (by decide +kernel) (by decide +kernel)
theorem zw_14 : (Jvm.Cond.selects "BalanceRoomModel" ({ cls := "BalanceRoomModel", name := "readRoom", desc := "()I" } : Jvm.MethodName) ({ cls := "BalanceRoomModel", name := "readRoom", desc := "()I" } : Jvm.MethodName)) ∈ zU := zU_i (i := 14) (by decide +kernel) (by decide +kernel)
theorem zw_15 : (Jvm.Cond.selects "BalanceRoomModel" ({ cls := "BalanceRoomModel", name := "readHead", desc := "()Z" } : Jvm.MethodName) ({ cls := "BalanceRoomModel", name := "readHead", desc := "()Z" } : Jvm.MethodName)) ∈ zU := zU_i (i := 15) (by decide +kernel) (by decide +kernel)
theorem zw_16 : (Jvm.Cond.selects "BalanceRoomModel" ({ cls := "BalanceRoomModel", name := "figure", desc := "(II)I" } : Jvm.MethodName) ({ cls := "BalanceRoomModel", name := "figure", desc := "(II)I" } : Jvm.MethodName)) ∈ zU := zU_i (i := 16) (by decide +kernel) (by decide +kernel)
theorem zw_17 : (Jvm.Cond.selects "BalanceRoomModel" ({ cls := "BalanceRoomModel", name := "readWeighing", desc := "()Z" } : Jvm.MethodName) ({ cls := "BalanceRoomModel", name := "readWeighing", desc := "()Z" } : Jvm.MethodName)) ∈ zU := zU_i (i := 17) (by decide +kernel) (by decide +kernel)
theorem zw_18 : (Jvm.Cond.selects "BalanceRoomModel" ({ cls := "BalanceRoomModel", name := "sign", desc := "(Z)I" } : Jvm.MethodName) ({ cls := "BalanceRoomModel", name := "sign", desc := "(Z)I" } : Jvm.MethodName)) ∈ zU := zU_i (i := 18) (by decide +kernel) (by decide +kernel)
theorem zw_19 : (Jvm.Cond.selects "BalanceRoomModel" ({ cls := "BalanceRoomModel", name := "noWeighing", desc := "(I)Z" } : Jvm.MethodName) ({ cls := "BalanceRoomModel", name := "noWeighing", desc := "(I)Z" } : Jvm.MethodName)) ∈ zU := zU_i (i := 19) (by decide +kernel) (by decide +kernel)
theorem zw_20 : (Jvm.Cond.selects "BalanceRoomModel" ({ cls := "BalanceRoomModel", name := "isCode", desc := "(I)Z" } : Jvm.MethodName) ({ cls := "BalanceRoomModel", name := "isCode", desc := "(I)Z" } : Jvm.MethodName)) ∈ zU := zU_i (i := 20) (by decide +kernel) (by decide +kernel)
theorem zw_21 : (Jvm.Cond.selects "BalanceRoomModel" ({ cls := "BalanceRoomModel", name := "note", desc := "()V" } : Jvm.MethodName) ({ cls := "BalanceRoomModel", name := "note", desc := "()V" } : Jvm.MethodName)) ∈ zU := zU_i (i := 21) (by decide +kernel) (by decide +kernel)
theorem zw_22 : (Jvm.Cond.selects "BalanceRoomModel" ({ cls := "BalanceRoomModel", name := "rankOf", desc := "([IIZ)I" } : Jvm.MethodName) ({ cls := "BalanceRoomModel", name := "rankOf", desc := "([IIZ)I" } : Jvm.MethodName)) ∈ zU := zU_i (i := 22) (by decide +kernel) (by decide +kernel)
theorem zw_23 : (Jvm.Cond.selects "BalanceRoomModel" ({ cls := "BalanceRoomModel", name := "layGram", desc := "([IIZ)V" } : Jvm.MethodName) ({ cls := "BalanceRoomModel", name := "layGram", desc := "([IIZ)V" } : Jvm.MethodName)) ∈ zU := zU_i (i := 23) (by decide +kernel) (by decide +kernel)
theorem zw_24 : (Jvm.Cond.selects "BalanceRoomModel" ({ cls := "BalanceRoomModel", name := "layColumns", desc := "([IIZ)V" } : Jvm.MethodName) ({ cls := "BalanceRoomModel", name := "layColumns", desc := "([IIZ)V" } : Jvm.MethodName)) ∈ zU := zU_i (i := 24) (by decide +kernel) (by decide +kernel)
theorem zw_25 : (Jvm.Cond.selects "BalanceRoomModel" ({ cls := "BalanceRoomModel", name := "panOf", desc := "(II)I" } : Jvm.MethodName) ({ cls := "BalanceRoomModel", name := "panOf", desc := "(II)I" } : Jvm.MethodName)) ∈ zU := zU_i (i := 25) (by decide +kernel) (by decide +kernel)
theorem zw_26 : (Jvm.Cond.selects "BalanceRoomModel" ({ cls := "BalanceRoomModel", name := "columns", desc := "()I" } : Jvm.MethodName) ({ cls := "BalanceRoomModel", name := "columns", desc := "()I" } : Jvm.MethodName)) ∈ zU := zU_i (i := 26) (by decide +kernel) (by decide +kernel)
theorem zw_27 : (Jvm.Cond.selects "BalanceRoomModel" ({ cls := "BalanceRoomModel", name := "minor", desc := "(II)J" } : Jvm.MethodName) ({ cls := "BalanceRoomModel", name := "minor", desc := "(II)J" } : Jvm.MethodName)) ∈ zU := zU_i (i := 27) (by decide +kernel) (by decide +kernel)
theorem zw_28 : (Jvm.Cond.selects "BalanceRoomModel" ({ cls := "BalanceRoomModel", name := "determinant", desc := "(I)J" } : Jvm.MethodName) ({ cls := "BalanceRoomModel", name := "determinant", desc := "(I)J" } : Jvm.MethodName)) ∈ zU := zU_i (i := 28) (by decide +kernel) (by decide +kernel)
theorem zw_29 : (Jvm.Cond.selects "BalanceRoomModel" ({ cls := "BalanceRoomModel", name := "noColumn", desc := "(IZ)Z" } : Jvm.MethodName) ({ cls := "BalanceRoomModel", name := "noColumn", desc := "(IZ)Z" } : Jvm.MethodName)) ∈ zU := zU_i (i := 29) (by decide +kernel) (by decide +kernel)
theorem zw_30 : (Jvm.Cond.selects "BalanceRoomModel" ({ cls := "BalanceRoomModel", name := "isLaid", desc := "([IIZ)Z" } : Jvm.MethodName) ({ cls := "BalanceRoomModel", name := "isLaid", desc := "([IIZ)Z" } : Jvm.MethodName)) ∈ zU := zU_i (i := 30) (by decide +kernel) (by decide +kernel)
theorem zw_31 : (Jvm.Cond.selects "BalanceRoomModel" ({ cls := "BalanceRoomModel", name := "layFraction", desc := "(JJ)V" } : Jvm.MethodName) ({ cls := "BalanceRoomModel", name := "layFraction", desc := "(JJ)V" } : Jvm.MethodName)) ∈ zU := zU_i (i := 31) (by decide +kernel) (by decide +kernel)
theorem zw_32 : (Jvm.Cond.selects "BalanceRoomModel" ({ cls := "BalanceRoomModel", name := "told", desc := "(Z)J" } : Jvm.MethodName) ({ cls := "BalanceRoomModel", name := "told", desc := "(Z)J" } : Jvm.MethodName)) ∈ zU := zU_i (i := 32) (by decide +kernel) (by decide +kernel)
theorem zw_33 : (Jvm.Cond.selects "BalanceRoomModel" ({ cls := "BalanceRoomModel", name := "layTotal", desc := "()V" } : Jvm.MethodName) ({ cls := "BalanceRoomModel", name := "layTotal", desc := "()V" } : Jvm.MethodName)) ∈ zU := zU_i (i := 33) (by decide +kernel) (by decide +kernel)
theorem zw_34 : (Jvm.Cond.selects "BalanceRoomModel" ({ cls := "BalanceRoomModel", name := "laySquares", desc := "()V" } : Jvm.MethodName) ({ cls := "BalanceRoomModel", name := "laySquares", desc := "()V" } : Jvm.MethodName)) ∈ zU := zU_i (i := 34) (by decide +kernel) (by decide +kernel)
theorem zw_35 : (Jvm.Cond.selects "BalanceRoomModel" ({ cls := "BalanceRoomModel", name := "doubtfulOf", desc := "([IZ)I" } : Jvm.MethodName) ({ cls := "BalanceRoomModel", name := "doubtfulOf", desc := "([IZ)I" } : Jvm.MethodName)) ∈ zU := zU_i (i := 35) (by decide +kernel) (by decide +kernel)
theorem zw_36 : (Jvm.Cond.selects "BalanceRoomModel" ({ cls := "BalanceRoomModel", name := "does", desc := "(III)Z" } : Jvm.MethodName) ({ cls := "BalanceRoomModel", name := "does", desc := "(III)Z" } : Jvm.MethodName)) ∈ zU := zU_i (i := 36) (by decide +kernel) (by decide +kernel)
theorem zw_37 : (Jvm.Cond.selects "BalanceRoomModel" ({ cls := "BalanceRoomModel", name := "isWorth", desc := "(II)Z" } : Jvm.MethodName) ({ cls := "BalanceRoomModel", name := "isWorth", desc := "(II)Z" } : Jvm.MethodName)) ∈ zU := zU_i (i := 37) (by decide +kernel) (by decide +kernel)
theorem zw_38 : (Jvm.Cond.initialized "BalanceRoomLaw") ∈ zU := zU_i (i := 38) (by decide +kernel) (by decide +kernel)
theorem zw_39 : (Jvm.Cond.initialized "BalanceRoom") ∈ zU := zU_i (i := 39) (by decide +kernel) (by decide +kernel)
theorem zw_40 : (Jvm.Cond.initialized "BalanceRoom$Text") ∈ zU := zU_i (i := 40) (by decide +kernel) (by decide +kernel)
theorem zw_41 : (Jvm.Cond.initialized "BalanceRoom$Room") ∈ zU := zU_i (i := 41) (by decide +kernel) (by decide +kernel)
theorem zw_42 : (Jvm.Cond.initialized "BalanceRoom$Acts") ∈ zU := zU_i (i := 42) (by decide +kernel) (by decide +kernel)
theorem zw_43 : (Jvm.Cond.initialized "BalanceRoom$Fit") ∈ zU := zU_i (i := 43) (by decide +kernel) (by decide +kernel)
theorem zw_44 : (Jvm.Cond.initialized "BalanceRoom$Ranks") ∈ zU := zU_i (i := 44) (by decide +kernel) (by decide +kernel)
theorem zw_45 : (Jvm.Cond.initialized "BalanceRoomModel") ∈ zU := zU_i (i := 45) (by decide +kernel) (by decide +kernel)
theorem zw_46 : (Jvm.Cond.initialized "java/lang/Math") ∈ zU := zU_i (i := 46) (by decide +kernel) (by decide +kernel)
theorem zw_47 : (Jvm.Cond.initialized "java/lang/System") ∈ zU := zU_i (i := 47) (by decide +kernel) (by decide +kernel)
theorem zw_48 : (Jvm.Cond.initialized "java/lang/Integer") ∈ zU := zU_i (i := 48) (by decide +kernel) (by decide +kernel)
theorem zw_49 : (Jvm.Cond.classLink "BalanceRoomLaw" (7 : Nat) "BalanceRoom") ∈ zU := zU_i (i := 49) (by decide +kernel) (by decide +kernel)
theorem zw_50 : (Jvm.Cond.instantiable "BalanceRoom" (9 : Nat)) ∈ zU := zU_i (i := 50) (by decide +kernel) (by decide +kernel)
theorem zw_51 : (Jvm.Cond.methodLink "BalanceRoomLaw" (9 : Nat) ({ cls := "BalanceRoom", name := "<init>", desc := "()V" } : Jvm.MethodName)) ∈ zU := zU_i (i := 51) (by decide +kernel) (by decide +kernel)
theorem zw_52 : (Jvm.Cond.instanceMethod ({ cls := "BalanceRoom", name := "<init>", desc := "()V" } : Jvm.MethodName)) ∈ zU := zU_i (i := 52) (by decide +kernel) (by decide +kernel)
set_option maxRecDepth 100000 in
theorem zw_53 : (Jvm.Cond.code ({ cls := "BalanceRoom", name := "<init>", desc := "()V" } : Jvm.MethodName) prog_1_method_1_code (2 : Nat) (Option.none : Option Jvm.ClassFile.FieldType)) ∈ zU := zU_i (i := 53) (rfl) (by decide +kernel)
theorem zw_54 : (Jvm.Cond.methodLink "BalanceRoom" (1 : Nat) ({ cls := "java/lang/Object", name := "<init>", desc := "()V" } : Jvm.MethodName)) ∈ zU := zU_i (i := 54) (by decide +kernel) (by decide +kernel)
theorem zw_55 : (Jvm.Cond.instanceMethod ({ cls := "java/lang/Object", name := "<init>", desc := "()V" } : Jvm.MethodName)) ∈ zU := zU_i (i := 55) (by decide +kernel) (by decide +kernel)
set_option maxRecDepth 100000 in
theorem zw_56 : (Jvm.Cond.code ({ cls := "java/lang/Object", name := "<init>", desc := "()V" } : Jvm.MethodName) object_method_1_code (1 : Nat) (Option.none : Option Jvm.ClassFile.FieldType)) ∈ zU := zU_i (i := 56) (rfl) (by decide +kernel)
theorem zw_57 : (Jvm.Cond.classLink "BalanceRoom" (7 : Nat) "BalanceRoom$Text") ∈ zU := zU_i (i := 57) (by decide +kernel) (by decide +kernel)
theorem zw_58 : (Jvm.Cond.instantiable "BalanceRoom$Text" (2 : Nat)) ∈ zU := zU_i (i := 58) (by decide +kernel) (by decide +kernel)
theorem zl_59 : (Jvm.Cond.methodLinkNest "BalanceRoom" (9 : Nat) ({ cls := "BalanceRoom$Text", name := "<init>", desc := "()V" } : Jvm.MethodName) "BalanceRoom") ∈ lw_tbl := List.mem_of_getElem? (i := 59) (by decide +kernel)
theorem zw_60 : (Jvm.Cond.instanceMethod ({ cls := "BalanceRoom$Text", name := "<init>", desc := "()V" } : Jvm.MethodName)) ∈ zU := zU_i (i := 60) (by decide +kernel) (by decide +kernel)
set_option maxRecDepth 100000 in
theorem zw_61 : (Jvm.Cond.code ({ cls := "BalanceRoom$Text", name := "<init>", desc := "()V" } : Jvm.MethodName) prog_6_method_1_code (1 : Nat) (Option.none : Option Jvm.ClassFile.FieldType)) ∈ zU := zU_i (i := 61) (rfl) (by decide +kernel)
theorem zw_62 : (Jvm.Cond.methodLink "BalanceRoom$Text" (3 : Nat) ({ cls := "java/lang/Object", name := "<init>", desc := "()V" } : Jvm.MethodName)) ∈ zU := zU_i (i := 62) (by decide +kernel) (by decide +kernel)
theorem zw_63 : (Jvm.Cond.fieldLink "BalanceRoom$Text" (9 : Nat) "BalanceRoom$Text" "letters" "[I") ∈ zU := zU_i (i := 63) (by decide +kernel) (by decide +kernel)
theorem zw_64 : (Jvm.Cond.fieldLink "BalanceRoom" (63 : Nat) "BalanceRoom$Text" "letters" "[I") ∈ zU := zU_i (i := 64) (by decide +kernel) (by decide +kernel)
theorem zw_65 : (Jvm.Cond.fieldLink "BalanceRoom$Text" (15 : Nat) "BalanceRoom$Text" "length" "I") ∈ zU := zU_i (i := 65) (by decide +kernel) (by decide +kernel)
theorem zw_66 : (Jvm.Cond.fieldLink "BalanceRoom" (59 : Nat) "BalanceRoom$Text" "length" "I") ∈ zU := zU_i (i := 66) (by decide +kernel) (by decide +kernel)
theorem zw_67 : (Jvm.Cond.laysFinal "BalanceRoom$Text" "BalanceRoom$Text" "letters" "[I") ∈ zU := zU_i (i := 67) (by decide +kernel) (by decide +kernel)
theorem zw_69 : (Jvm.Cond.lays "BalanceRoom$Text" "BalanceRoom$Text" "length" "I") ∈ zU := zU_i (i := 69) (by decide +kernel) (by decide +kernel)
theorem zw_72 : (Jvm.Cond.arrayClass Jvm.ClassFile.FieldType.int) ∈ zU := zU_i (i := 72) (by decide +kernel) (by decide +kernel)
theorem zw_73 : (Jvm.Cond.classLink "BalanceRoom" (16 : Nat) "BalanceRoom$Room") ∈ zU := zU_i (i := 73) (by decide +kernel) (by decide +kernel)
theorem zw_74 : (Jvm.Cond.instantiable "BalanceRoom$Room" (5 : Nat)) ∈ zU := zU_i (i := 74) (by decide +kernel) (by decide +kernel)
theorem zl_75 : (Jvm.Cond.methodLinkNest "BalanceRoom" (18 : Nat) ({ cls := "BalanceRoom$Room", name := "<init>", desc := "()V" } : Jvm.MethodName) "BalanceRoom") ∈ lw_tbl := List.mem_of_getElem? (i := 75) (by decide +kernel)
theorem zw_76 : (Jvm.Cond.instanceMethod ({ cls := "BalanceRoom$Room", name := "<init>", desc := "()V" } : Jvm.MethodName)) ∈ zU := zU_i (i := 76) (by decide +kernel) (by decide +kernel)
set_option maxRecDepth 100000 in
theorem zw_77 : (Jvm.Cond.code ({ cls := "BalanceRoom$Room", name := "<init>", desc := "()V" } : Jvm.MethodName) prog_5_method_1_code (1 : Nat) (Option.none : Option Jvm.ClassFile.FieldType)) ∈ zU := zU_i (i := 77) (rfl) (by decide +kernel)
theorem zw_78 : (Jvm.Cond.methodLink "BalanceRoom$Room" (3 : Nat) ({ cls := "java/lang/Object", name := "<init>", desc := "()V" } : Jvm.MethodName)) ∈ zU := zU_i (i := 78) (by decide +kernel) (by decide +kernel)
theorem zw_79 : (Jvm.Cond.fieldLink "BalanceRoom$Room" (9 : Nat) "BalanceRoom$Room" "weights" "I") ∈ zU := zU_i (i := 79) (by decide +kernel) (by decide +kernel)
theorem zw_80 : (Jvm.Cond.fieldLink "BalanceRoom$Fit" (50 : Nat) "BalanceRoom$Room" "weights" "I") ∈ zU := zU_i (i := 80) (by decide +kernel) (by decide +kernel)
theorem zw_81 : (Jvm.Cond.fieldLink "BalanceRoom" (91 : Nat) "BalanceRoom$Room" "weights" "I") ∈ zU := zU_i (i := 81) (by decide +kernel) (by decide +kernel)
theorem zw_82 : (Jvm.Cond.fieldLink "BalanceRoom$Room" (15 : Nat) "BalanceRoom$Room" "masterValue" "I") ∈ zU := zU_i (i := 82) (by decide +kernel) (by decide +kernel)
theorem zw_83 : (Jvm.Cond.fieldLink "BalanceRoom" (116 : Nat) "BalanceRoom$Room" "masterValue" "I") ∈ zU := zU_i (i := 83) (by decide +kernel) (by decide +kernel)
theorem zw_84 : (Jvm.Cond.fieldLink "BalanceRoom$Room" (18 : Nat) "BalanceRoom$Room" "weighings" "I") ∈ zU := zU_i (i := 84) (by decide +kernel) (by decide +kernel)
theorem zw_85 : (Jvm.Cond.fieldLink "BalanceRoom$Ranks" (23 : Nat) "BalanceRoom$Room" "weighings" "I") ∈ zU := zU_i (i := 85) (by decide +kernel) (by decide +kernel)
theorem zw_86 : (Jvm.Cond.fieldLink "BalanceRoom" (78 : Nat) "BalanceRoom$Room" "weighings" "I") ∈ zU := zU_i (i := 86) (by decide +kernel) (by decide +kernel)
theorem zw_87 : (Jvm.Cond.fieldLink "BalanceRoom$Fit" (59 : Nat) "BalanceRoom$Room" "weighings" "I") ∈ zU := zU_i (i := 87) (by decide +kernel) (by decide +kernel)
theorem zw_88 : (Jvm.Cond.fieldLink "BalanceRoom$Room" (21 : Nat) "BalanceRoom$Room" "codes" "[I") ∈ zU := zU_i (i := 88) (by decide +kernel) (by decide +kernel)
theorem zw_89 : (Jvm.Cond.fieldLink "BalanceRoom" (85 : Nat) "BalanceRoom$Room" "codes" "[I") ∈ zU := zU_i (i := 89) (by decide +kernel) (by decide +kernel)
theorem zw_90 : (Jvm.Cond.fieldLink "BalanceRoom$Room" (25 : Nat) "BalanceRoom$Room" "readings" "[I") ∈ zU := zU_i (i := 90) (by decide +kernel) (by decide +kernel)
theorem zw_91 : (Jvm.Cond.fieldLink "BalanceRoom" (88 : Nat) "BalanceRoom$Room" "readings" "[I") ∈ zU := zU_i (i := 91) (by decide +kernel) (by decide +kernel)
theorem zw_92 : (Jvm.Cond.lays "BalanceRoom$Room" "BalanceRoom$Room" "weights" "I") ∈ zU := zU_i (i := 92) (by decide +kernel) (by decide +kernel)
theorem zw_94 : (Jvm.Cond.lays "BalanceRoom$Room" "BalanceRoom$Room" "masterValue" "I") ∈ zU := zU_i (i := 94) (by decide +kernel) (by decide +kernel)
theorem zw_96 : (Jvm.Cond.lays "BalanceRoom$Room" "BalanceRoom$Room" "weighings" "I") ∈ zU := zU_i (i := 96) (by decide +kernel) (by decide +kernel)
theorem zw_98 : (Jvm.Cond.laysFinal "BalanceRoom$Room" "BalanceRoom$Room" "codes" "[I") ∈ zU := zU_i (i := 98) (by decide +kernel) (by decide +kernel)
theorem zw_100 : (Jvm.Cond.laysFinal "BalanceRoom$Room" "BalanceRoom$Room" "readings" "[I") ∈ zU := zU_i (i := 100) (by decide +kernel) (by decide +kernel)
theorem zw_103 : (Jvm.Cond.classLink "BalanceRoom" (26 : Nat) "BalanceRoom$Acts") ∈ zU := zU_i (i := 103) (by decide +kernel) (by decide +kernel)
theorem zw_104 : (Jvm.Cond.instantiable "BalanceRoom$Acts" (3 : Nat)) ∈ zU := zU_i (i := 104) (by decide +kernel) (by decide +kernel)
theorem zw_105 : (Jvm.Cond.methodLink "BalanceRoom" (28 : Nat) ({ cls := "BalanceRoom$Acts", name := "<init>", desc := "()V" } : Jvm.MethodName)) ∈ zU := zU_i (i := 105) (by decide +kernel) (by decide +kernel)
theorem zw_106 : (Jvm.Cond.instanceMethod ({ cls := "BalanceRoom$Acts", name := "<init>", desc := "()V" } : Jvm.MethodName)) ∈ zU := zU_i (i := 106) (by decide +kernel) (by decide +kernel)
set_option maxRecDepth 100000 in
theorem zw_107 : (Jvm.Cond.code ({ cls := "BalanceRoom$Acts", name := "<init>", desc := "()V" } : Jvm.MethodName) prog_2_method_1_code (2 : Nat) (Option.none : Option Jvm.ClassFile.FieldType)) ∈ zU := zU_i (i := 107) (rfl) (by decide +kernel)
theorem zw_108 : (Jvm.Cond.methodLink "BalanceRoom$Acts" (3 : Nat) ({ cls := "java/lang/Object", name := "<init>", desc := "()V" } : Jvm.MethodName)) ∈ zU := zU_i (i := 108) (by decide +kernel) (by decide +kernel)
theorem zw_109 : (Jvm.Cond.classLink "BalanceRoom$Acts" (9 : Nat) "BalanceRoom$Room") ∈ zU := zU_i (i := 109) (by decide +kernel) (by decide +kernel)
theorem zl_110 : (Jvm.Cond.arrayOver (Jvm.ClassFile.FieldType.object "BalanceRoom$Room")) ∈ lw_tbl := List.mem_of_getElem? (i := 110) (by decide +kernel)
theorem zl_111 : (Jvm.Cond.methodLinkNest "BalanceRoom$Acts" (24 : Nat) ({ cls := "BalanceRoom$Room", name := "<init>", desc := "()V" } : Jvm.MethodName) "BalanceRoom") ∈ lw_tbl := List.mem_of_getElem? (i := 111) (by decide +kernel)
theorem zw_112 : (Jvm.Cond.fieldLink "BalanceRoom$Acts" (11 : Nat) "BalanceRoom$Acts" "before" "[LBalanceRoom$Room;") ∈ zU := zU_i (i := 112) (by decide +kernel) (by decide +kernel)
theorem zw_113 : (Jvm.Cond.fieldLink "BalanceRoom$Acts" (17 : Nat) "BalanceRoom$Acts" "oldest" "I") ∈ zU := zU_i (i := 113) (by decide +kernel) (by decide +kernel)
theorem zw_114 : (Jvm.Cond.fieldLink "BalanceRoom$Acts" (21 : Nat) "BalanceRoom$Acts" "size" "I") ∈ zU := zU_i (i := 114) (by decide +kernel) (by decide +kernel)
theorem zw_115 : (Jvm.Cond.fieldLink "BalanceRoom" (119 : Nat) "BalanceRoom$Acts" "size" "I") ∈ zU := zU_i (i := 115) (by decide +kernel) (by decide +kernel)
theorem zw_116 : (Jvm.Cond.laysFinal "BalanceRoom$Acts" "BalanceRoom$Acts" "before" "[LBalanceRoom$Room;") ∈ zU := zU_i (i := 116) (by decide +kernel) (by decide +kernel)
theorem zw_118 : (Jvm.Cond.lays "BalanceRoom$Acts" "BalanceRoom$Acts" "oldest" "I") ∈ zU := zU_i (i := 118) (by decide +kernel) (by decide +kernel)
theorem zw_120 : (Jvm.Cond.lays "BalanceRoom$Acts" "BalanceRoom$Acts" "size" "I") ∈ zU := zU_i (i := 120) (by decide +kernel) (by decide +kernel)
theorem zw_123 : (Jvm.Cond.classLink "BalanceRoom" (41 : Nat) "BalanceRoom$Fit") ∈ zU := zU_i (i := 123) (by decide +kernel) (by decide +kernel)
theorem zw_124 : (Jvm.Cond.instantiable "BalanceRoom$Fit" (7 : Nat)) ∈ zU := zU_i (i := 124) (by decide +kernel) (by decide +kernel)
theorem zl_125 : (Jvm.Cond.methodLinkNest "BalanceRoom" (43 : Nat) ({ cls := "BalanceRoom$Fit", name := "<init>", desc := "()V" } : Jvm.MethodName) "BalanceRoom") ∈ lw_tbl := List.mem_of_getElem? (i := 125) (by decide +kernel)
theorem zw_126 : (Jvm.Cond.instanceMethod ({ cls := "BalanceRoom$Fit", name := "<init>", desc := "()V" } : Jvm.MethodName)) ∈ zU := zU_i (i := 126) (by decide +kernel) (by decide +kernel)
set_option maxRecDepth 100000 in
theorem zw_127 : (Jvm.Cond.code ({ cls := "BalanceRoom$Fit", name := "<init>", desc := "()V" } : Jvm.MethodName) prog_3_method_1_code (1 : Nat) (Option.none : Option Jvm.ClassFile.FieldType)) ∈ zU := zU_i (i := 127) (rfl) (by decide +kernel)
theorem zw_128 : (Jvm.Cond.methodLink "BalanceRoom$Fit" (3 : Nat) ({ cls := "java/lang/Object", name := "<init>", desc := "()V" } : Jvm.MethodName)) ∈ zU := zU_i (i := 128) (by decide +kernel) (by decide +kernel)
theorem zw_129 : (Jvm.Cond.classLink "BalanceRoom$Fit" (9 : Nat) "[[J") ∈ zU := zU_i (i := 129) (by decide +kernel) (by decide +kernel)
theorem zl_130 : (Jvm.Cond.arrayOver (Jvm.ClassFile.FieldType.array Jvm.ClassFile.FieldType.long)) ∈ lw_tbl := List.mem_of_getElem? (i := 130) (by decide +kernel)
theorem zw_131 : (Jvm.Cond.fieldLink "BalanceRoom$Fit" (11 : Nat) "BalanceRoom$Fit" "sums" "[[J") ∈ zU := zU_i (i := 131) (by decide +kernel) (by decide +kernel)
theorem zw_132 : (Jvm.Cond.fieldLink "BalanceRoom$Fit" (16 : Nat) "BalanceRoom$Fit" "swept" "[[J") ∈ zU := zU_i (i := 132) (by decide +kernel) (by decide +kernel)
theorem zw_133 : (Jvm.Cond.fieldLink "BalanceRoom$Fit" (19 : Nat) "BalanceRoom$Fit" "line" "[J") ∈ zU := zU_i (i := 133) (by decide +kernel) (by decide +kernel)
theorem zw_134 : (Jvm.Cond.fieldLink "BalanceRoom$Fit" (23 : Nat) "BalanceRoom$Fit" "withDrift" "Z") ∈ zU := zU_i (i := 134) (by decide +kernel) (by decide +kernel)
theorem zw_135 : (Jvm.Cond.fieldLink "BalanceRoom$Fit" (27 : Nat) "BalanceRoom$Fit" "weightsHere" "I") ∈ zU := zU_i (i := 135) (by decide +kernel) (by decide +kernel)
theorem zw_136 : (Jvm.Cond.fieldLink "BalanceRoom$Fit" (31 : Nat) "BalanceRoom$Fit" "unknownsHere" "I") ∈ zU := zU_i (i := 136) (by decide +kernel) (by decide +kernel)
theorem zw_137 : (Jvm.Cond.fieldLink "BalanceRoom$Fit" (34 : Nat) "BalanceRoom$Fit" "below" "J") ∈ zU := zU_i (i := 137) (by decide +kernel) (by decide +kernel)
theorem zw_138 : (Jvm.Cond.fieldLink "BalanceRoom" (145 : Nat) "BalanceRoom$Fit" "below" "J") ∈ zU := zU_i (i := 138) (by decide +kernel) (by decide +kernel)
theorem zw_139 : (Jvm.Cond.laysFinal "BalanceRoom$Fit" "BalanceRoom$Fit" "sums" "[[J") ∈ zU := zU_i (i := 139) (by decide +kernel) (by decide +kernel)
theorem zw_141 : (Jvm.Cond.laysFinal "BalanceRoom$Fit" "BalanceRoom$Fit" "swept" "[[J") ∈ zU := zU_i (i := 141) (by decide +kernel) (by decide +kernel)
theorem zw_143 : (Jvm.Cond.laysFinal "BalanceRoom$Fit" "BalanceRoom$Fit" "line" "[J") ∈ zU := zU_i (i := 143) (by decide +kernel) (by decide +kernel)
theorem zw_145 : (Jvm.Cond.lays "BalanceRoom$Fit" "BalanceRoom$Fit" "withDrift" "Z") ∈ zU := zU_i (i := 145) (by decide +kernel) (by decide +kernel)
theorem zw_147 : (Jvm.Cond.lays "BalanceRoom$Fit" "BalanceRoom$Fit" "weightsHere" "I") ∈ zU := zU_i (i := 147) (by decide +kernel) (by decide +kernel)
theorem zw_149 : (Jvm.Cond.lays "BalanceRoom$Fit" "BalanceRoom$Fit" "unknownsHere" "I") ∈ zU := zU_i (i := 149) (by decide +kernel) (by decide +kernel)
theorem zw_151 : (Jvm.Cond.lays "BalanceRoom$Fit" "BalanceRoom$Fit" "below" "J") ∈ zU := zU_i (i := 151) (by decide +kernel) (by decide +kernel)
theorem zw_154 : (Jvm.Cond.arrayClass Jvm.ClassFile.FieldType.boolean) ∈ zU := zU_i (i := 154) (by decide +kernel) (by decide +kernel)
theorem zw_155 : (Jvm.Cond.arrayClass Jvm.ClassFile.FieldType.long) ∈ zU := zU_i (i := 155) (by decide +kernel) (by decide +kernel)
theorem zw_156 : (Jvm.Cond.classLink "BalanceRoom" (48 : Nat) "BalanceRoom$Ranks") ∈ zU := zU_i (i := 156) (by decide +kernel) (by decide +kernel)
theorem zw_157 : (Jvm.Cond.instantiable "BalanceRoom$Ranks" (3 : Nat)) ∈ zU := zU_i (i := 157) (by decide +kernel) (by decide +kernel)
theorem zl_158 : (Jvm.Cond.methodLinkNest "BalanceRoom" (50 : Nat) ({ cls := "BalanceRoom$Ranks", name := "<init>", desc := "()V" } : Jvm.MethodName) "BalanceRoom") ∈ lw_tbl := List.mem_of_getElem? (i := 158) (by decide +kernel)
theorem zw_159 : (Jvm.Cond.instanceMethod ({ cls := "BalanceRoom$Ranks", name := "<init>", desc := "()V" } : Jvm.MethodName)) ∈ zU := zU_i (i := 159) (by decide +kernel) (by decide +kernel)
set_option maxRecDepth 100000 in
theorem zw_160 : (Jvm.Cond.code ({ cls := "BalanceRoom$Ranks", name := "<init>", desc := "()V" } : Jvm.MethodName) prog_4_method_1_code (1 : Nat) (Option.none : Option Jvm.ClassFile.FieldType)) ∈ zU := zU_i (i := 160) (rfl) (by decide +kernel)
theorem zw_161 : (Jvm.Cond.methodLink "BalanceRoom$Ranks" (3 : Nat) ({ cls := "java/lang/Object", name := "<init>", desc := "()V" } : Jvm.MethodName)) ∈ zU := zU_i (i := 161) (by decide +kernel) (by decide +kernel)
theorem zw_162 : (Jvm.Cond.classLink "BalanceRoom$Ranks" (9 : Nat) "[[J") ∈ zU := zU_i (i := 162) (by decide +kernel) (by decide +kernel)
theorem zw_163 : (Jvm.Cond.fieldLink "BalanceRoom$Ranks" (11 : Nat) "BalanceRoom$Ranks" "basis" "[[J") ∈ zU := zU_i (i := 163) (by decide +kernel) (by decide +kernel)
theorem zw_164 : (Jvm.Cond.fieldLink "BalanceRoom$Ranks" (16 : Nat) "BalanceRoom$Ranks" "leads" "[I") ∈ zU := zU_i (i := 164) (by decide +kernel) (by decide +kernel)
theorem zw_165 : (Jvm.Cond.fieldLink "BalanceRoom$Ranks" (20 : Nat) "BalanceRoom$Ranks" "ofSet" "[I") ∈ zU := zU_i (i := 165) (by decide +kernel) (by decide +kernel)
theorem zw_166 : (Jvm.Cond.fieldLink "BalanceRoom" (202 : Nat) "BalanceRoom$Ranks" "ofSet" "[I") ∈ zU := zU_i (i := 166) (by decide +kernel) (by decide +kernel)
theorem zw_167 : (Jvm.Cond.laysFinal "BalanceRoom$Ranks" "BalanceRoom$Ranks" "basis" "[[J") ∈ zU := zU_i (i := 167) (by decide +kernel) (by decide +kernel)
theorem zw_169 : (Jvm.Cond.laysFinal "BalanceRoom$Ranks" "BalanceRoom$Ranks" "leads" "[I") ∈ zU := zU_i (i := 169) (by decide +kernel) (by decide +kernel)
theorem zw_171 : (Jvm.Cond.laysFinal "BalanceRoom$Ranks" "BalanceRoom$Ranks" "ofSet" "[I") ∈ zU := zU_i (i := 171) (by decide +kernel) (by decide +kernel)
theorem zw_174 : (Jvm.Cond.fieldLink "BalanceRoom" (10 : Nat) "BalanceRoom" "text" "LBalanceRoom$Text;") ∈ zU := zU_i (i := 174) (by decide +kernel) (by decide +kernel)
theorem zw_175 : (Jvm.Cond.fieldLink "BalanceRoom" (19 : Nat) "BalanceRoom" "here" "LBalanceRoom$Room;") ∈ zU := zU_i (i := 175) (by decide +kernel) (by decide +kernel)
theorem zw_176 : (Jvm.Cond.fieldLink "BalanceRoom" (23 : Nat) "BalanceRoom" "trial" "LBalanceRoom$Room;") ∈ zU := zU_i (i := 176) (by decide +kernel) (by decide +kernel)
theorem zw_177 : (Jvm.Cond.fieldLink "BalanceRoom" (29 : Nat) "BalanceRoom" "acts" "LBalanceRoom$Acts;") ∈ zU := zU_i (i := 177) (by decide +kernel) (by decide +kernel)
theorem zw_178 : (Jvm.Cond.fieldLink "BalanceRoom" (33 : Nat) "BalanceRoom" "slots" "[LBalanceRoom$Room;") ∈ zU := zU_i (i := 178) (by decide +kernel) (by decide +kernel)
theorem zw_179 : (Jvm.Cond.fieldLink "BalanceRoom" (37 : Nat) "BalanceRoom" "filled" "[Z") ∈ zU := zU_i (i := 179) (by decide +kernel) (by decide +kernel)
theorem zw_180 : (Jvm.Cond.fieldLink "BalanceRoom" (44 : Nat) "BalanceRoom" "fit" "LBalanceRoom$Fit;") ∈ zU := zU_i (i := 180) (by decide +kernel) (by decide +kernel)
theorem zw_181 : (Jvm.Cond.fieldLink "BalanceRoom" (51 : Nat) "BalanceRoom" "ranks" "LBalanceRoom$Ranks;") ∈ zU := zU_i (i := 181) (by decide +kernel) (by decide +kernel)
theorem zw_182 : (Jvm.Cond.fieldLink "BalanceRoom" (55 : Nat) "BalanceRoom" "seedNow" "J") ∈ zU := zU_i (i := 182) (by decide +kernel) (by decide +kernel)
theorem zw_183 : (Jvm.Cond.laysFinal "BalanceRoom" "BalanceRoom" "text" "LBalanceRoom$Text;") ∈ zU := zU_i (i := 183) (by decide +kernel) (by decide +kernel)
theorem zw_185 : (Jvm.Cond.laysFinal "BalanceRoom" "BalanceRoom" "here" "LBalanceRoom$Room;") ∈ zU := zU_i (i := 185) (by decide +kernel) (by decide +kernel)
theorem zw_187 : (Jvm.Cond.laysFinal "BalanceRoom" "BalanceRoom" "trial" "LBalanceRoom$Room;") ∈ zU := zU_i (i := 187) (by decide +kernel) (by decide +kernel)
theorem zw_189 : (Jvm.Cond.laysFinal "BalanceRoom" "BalanceRoom" "acts" "LBalanceRoom$Acts;") ∈ zU := zU_i (i := 189) (by decide +kernel) (by decide +kernel)
theorem zw_191 : (Jvm.Cond.laysFinal "BalanceRoom" "BalanceRoom" "slots" "[LBalanceRoom$Room;") ∈ zU := zU_i (i := 191) (by decide +kernel) (by decide +kernel)
theorem zw_193 : (Jvm.Cond.laysFinal "BalanceRoom" "BalanceRoom" "filled" "[Z") ∈ zU := zU_i (i := 193) (by decide +kernel) (by decide +kernel)
theorem zw_195 : (Jvm.Cond.laysFinal "BalanceRoom" "BalanceRoom" "fit" "LBalanceRoom$Fit;") ∈ zU := zU_i (i := 195) (by decide +kernel) (by decide +kernel)
theorem zw_197 : (Jvm.Cond.laysFinal "BalanceRoom" "BalanceRoom" "ranks" "LBalanceRoom$Ranks;") ∈ zU := zU_i (i := 197) (by decide +kernel) (by decide +kernel)
theorem zw_199 : (Jvm.Cond.lays "BalanceRoom" "BalanceRoom" "seedNow" "J") ∈ zU := zU_i (i := 199) (by decide +kernel) (by decide +kernel)
theorem zw_202 : (Jvm.Cond.methodLink "BalanceRoomLaw" (13 : Nat) ({ cls := "BalanceRoom", name := "write", desc := "(I)I" } : Jvm.MethodName)) ∈ zU := zU_i (i := 202) (by decide +kernel) (by decide +kernel)
theorem zw_203 : (Jvm.Cond.instanceMethod ({ cls := "BalanceRoom", name := "write", desc := "(I)I" } : Jvm.MethodName)) ∈ zU := zU_i (i := 203) (by decide +kernel) (by decide +kernel)
theorem zw_204 : (Jvm.Cond.selects "BalanceRoom" ({ cls := "BalanceRoom", name := "write", desc := "(I)I" } : Jvm.MethodName) ({ cls := "BalanceRoom", name := "write", desc := "(I)I" } : Jvm.MethodName)) ∈ zU := zU_i (i := 204) (by decide +kernel) (by decide +kernel)
set_option maxRecDepth 100000 in
theorem zw_205 : (Jvm.Cond.code ({ cls := "BalanceRoom", name := "write", desc := "(I)I" } : Jvm.MethodName) prog_1_method_2_code (2 : Nat) (Option.some Jvm.ClassFile.FieldType.int)) ∈ zU := zU_i (i := 205) (rfl) (by decide +kernel)
theorem zw_206 : (Jvm.Cond.methodLink "BalanceRoomLaw" (18 : Nat) ({ cls := "BalanceRoom", name := "wipe", desc := "()I" } : Jvm.MethodName)) ∈ zU := zU_i (i := 206) (by decide +kernel) (by decide +kernel)
theorem zw_207 : (Jvm.Cond.instanceMethod ({ cls := "BalanceRoom", name := "wipe", desc := "()I" } : Jvm.MethodName)) ∈ zU := zU_i (i := 207) (by decide +kernel) (by decide +kernel)
theorem zw_208 : (Jvm.Cond.selects "BalanceRoom" ({ cls := "BalanceRoom", name := "wipe", desc := "()I" } : Jvm.MethodName) ({ cls := "BalanceRoom", name := "wipe", desc := "()I" } : Jvm.MethodName)) ∈ zU := zU_i (i := 208) (by decide +kernel) (by decide +kernel)
set_option maxRecDepth 100000 in
theorem zw_209 : (Jvm.Cond.code ({ cls := "BalanceRoom", name := "wipe", desc := "()I" } : Jvm.MethodName) prog_1_method_3_code (2 : Nat) (Option.some Jvm.ClassFile.FieldType.int)) ∈ zU := zU_i (i := 209) (rfl) (by decide +kernel)
theorem zw_210 : (Jvm.Cond.methodLink "BalanceRoomLaw" (23 : Nat) ({ cls := "BalanceRoom", name := "fault", desc := "()I" } : Jvm.MethodName)) ∈ zU := zU_i (i := 210) (by decide +kernel) (by decide +kernel)
theorem zw_211 : (Jvm.Cond.instanceMethod ({ cls := "BalanceRoom", name := "fault", desc := "()I" } : Jvm.MethodName)) ∈ zU := zU_i (i := 211) (by decide +kernel) (by decide +kernel)
theorem zw_212 : (Jvm.Cond.selects "BalanceRoom" ({ cls := "BalanceRoom", name := "fault", desc := "()I" } : Jvm.MethodName) ({ cls := "BalanceRoom", name := "fault", desc := "()I" } : Jvm.MethodName)) ∈ zU := zU_i (i := 212) (by decide +kernel) (by decide +kernel)
set_option maxRecDepth 100000 in
theorem zw_213 : (Jvm.Cond.code ({ cls := "BalanceRoom", name := "fault", desc := "()I" } : Jvm.MethodName) prog_1_method_4_code (1 : Nat) (Option.some Jvm.ClassFile.FieldType.int)) ∈ zU := zU_i (i := 213) (rfl) (by decide +kernel)
theorem zw_214 : (Jvm.Cond.methodLink "BalanceRoom" (67 : Nat) ({ cls := "BalanceRoom$Text", name := "faultPlace", desc := "()I" } : Jvm.MethodName)) ∈ zU := zU_i (i := 214) (by decide +kernel) (by decide +kernel)
theorem zw_215 : (Jvm.Cond.instanceMethod ({ cls := "BalanceRoom$Text", name := "faultPlace", desc := "()I" } : Jvm.MethodName)) ∈ zU := zU_i (i := 215) (by decide +kernel) (by decide +kernel)
theorem zw_216 : (Jvm.Cond.selects "BalanceRoom$Text" ({ cls := "BalanceRoom$Text", name := "faultPlace", desc := "()I" } : Jvm.MethodName) ({ cls := "BalanceRoom$Text", name := "faultPlace", desc := "()I" } : Jvm.MethodName)) ∈ zU := zU_i (i := 216) (by decide +kernel) (by decide +kernel)
set_option maxRecDepth 100000 in
theorem zw_217 : (Jvm.Cond.code ({ cls := "BalanceRoom$Text", name := "faultPlace", desc := "()I" } : Jvm.MethodName) prog_6_method_2_code (2 : Nat) (Option.some Jvm.ClassFile.FieldType.int)) ∈ zU := zU_i (i := 217) (rfl) (by decide +kernel)
theorem zw_218 : (Jvm.Cond.methodLink "BalanceRoom$Text" (19 : Nat) ({ cls := "BalanceRoom$Text", name := "fits", desc := "(I)Z" } : Jvm.MethodName)) ∈ zU := zU_i (i := 218) (by decide +kernel) (by decide +kernel)
theorem zw_220 : (Jvm.Cond.instanceMethod ({ cls := "BalanceRoom$Text", name := "fits", desc := "(I)Z" } : Jvm.MethodName)) ∈ zU := zU_i (i := 220) (by decide +kernel) (by decide +kernel)
set_option maxRecDepth 100000 in
theorem zw_221 : (Jvm.Cond.code ({ cls := "BalanceRoom$Text", name := "fits", desc := "(I)Z" } : Jvm.MethodName) prog_6_method_3_code (5 : Nat) (Option.some Jvm.ClassFile.FieldType.boolean)) ∈ zU := zU_i (i := 221) (rfl) (by decide +kernel)
theorem zw_222 : (Jvm.Cond.methodLink "BalanceRoom$Text" (27 : Nat) ({ cls := "BalanceRoom$Text", name := "isFigure", desc := "(I)Z" } : Jvm.MethodName)) ∈ zU := zU_i (i := 222) (by decide +kernel) (by decide +kernel)
theorem zw_223 : (Jvm.Cond.static ({ cls := "BalanceRoom$Text", name := "isFigure", desc := "(I)Z" } : Jvm.MethodName)) ∈ zU := zU_i (i := 223) (by decide +kernel) (by decide +kernel)
set_option maxRecDepth 100000 in
theorem zw_224 : (Jvm.Cond.code ({ cls := "BalanceRoom$Text", name := "isFigure", desc := "(I)Z" } : Jvm.MethodName) prog_6_method_4_code (1 : Nat) (Option.some Jvm.ClassFile.FieldType.boolean)) ∈ zU := zU_i (i := 224) (rfl) (by decide +kernel)
theorem zw_225 : (Jvm.Cond.methodLink "BalanceRoom$Text" (23 : Nat) ({ cls := "BalanceRoom$Text", name := "lettersEach", desc := "()I" } : Jvm.MethodName)) ∈ zU := zU_i (i := 225) (by decide +kernel) (by decide +kernel)
theorem zw_226 : (Jvm.Cond.instanceMethod ({ cls := "BalanceRoom$Text", name := "lettersEach", desc := "()I" } : Jvm.MethodName)) ∈ zU := zU_i (i := 226) (by decide +kernel) (by decide +kernel)
theorem zw_227 : (Jvm.Cond.selects "BalanceRoom$Text" ({ cls := "BalanceRoom$Text", name := "lettersEach", desc := "()I" } : Jvm.MethodName) ({ cls := "BalanceRoom$Text", name := "lettersEach", desc := "()I" } : Jvm.MethodName)) ∈ zU := zU_i (i := 227) (by decide +kernel) (by decide +kernel)
set_option maxRecDepth 100000 in
theorem zw_228 : (Jvm.Cond.code ({ cls := "BalanceRoom$Text", name := "lettersEach", desc := "()I" } : Jvm.MethodName) prog_6_method_7_code (1 : Nat) (Option.some Jvm.ClassFile.FieldType.int)) ∈ zU := zU_i (i := 228) (rfl) (by decide +kernel)
theorem zw_229 : (Jvm.Cond.methodLink "BalanceRoom$Text" (30 : Nat) ({ cls := "BalanceRoom$Text", name := "weightsTold", desc := "()I" } : Jvm.MethodName)) ∈ zU := zU_i (i := 229) (by decide +kernel) (by decide +kernel)
theorem zw_230 : (Jvm.Cond.instanceMethod ({ cls := "BalanceRoom$Text", name := "weightsTold", desc := "()I" } : Jvm.MethodName)) ∈ zU := zU_i (i := 230) (by decide +kernel) (by decide +kernel)
theorem zw_231 : (Jvm.Cond.selects "BalanceRoom$Text" ({ cls := "BalanceRoom$Text", name := "weightsTold", desc := "()I" } : Jvm.MethodName) ({ cls := "BalanceRoom$Text", name := "weightsTold", desc := "()I" } : Jvm.MethodName)) ∈ zU := zU_i (i := 231) (by decide +kernel) (by decide +kernel)
set_option maxRecDepth 100000 in
theorem zw_232 : (Jvm.Cond.code ({ cls := "BalanceRoom$Text", name := "weightsTold", desc := "()I" } : Jvm.MethodName) prog_6_method_6_code (2 : Nat) (Option.some Jvm.ClassFile.FieldType.int)) ∈ zU := zU_i (i := 232) (rfl) (by decide +kernel)
theorem zw_233 : (Jvm.Cond.methodLink "BalanceRoom$Text" (33 : Nat) ({ cls := "BalanceRoom$Text", name := "isSign", desc := "(I)Z" } : Jvm.MethodName)) ∈ zU := zU_i (i := 233) (by decide +kernel) (by decide +kernel)
theorem zw_234 : (Jvm.Cond.static ({ cls := "BalanceRoom$Text", name := "isSign", desc := "(I)Z" } : Jvm.MethodName)) ∈ zU := zU_i (i := 234) (by decide +kernel) (by decide +kernel)
set_option maxRecDepth 100000 in
theorem zw_235 : (Jvm.Cond.code ({ cls := "BalanceRoom$Text", name := "isSign", desc := "(I)Z" } : Jvm.MethodName) prog_6_method_5_code (1 : Nat) (Option.some Jvm.ClassFile.FieldType.boolean)) ∈ zU := zU_i (i := 235) (rfl) (by decide +kernel)
theorem zw_236 : (Jvm.Cond.methodLink "BalanceRoomLaw" (27 : Nat) ({ cls := "BalanceRoom", name := "room", desc := "()I" } : Jvm.MethodName)) ∈ zU := zU_i (i := 236) (by decide +kernel) (by decide +kernel)
theorem zw_237 : (Jvm.Cond.instanceMethod ({ cls := "BalanceRoom", name := "room", desc := "()I" } : Jvm.MethodName)) ∈ zU := zU_i (i := 237) (by decide +kernel) (by decide +kernel)
theorem zw_238 : (Jvm.Cond.selects "BalanceRoom" ({ cls := "BalanceRoom", name := "room", desc := "()I" } : Jvm.MethodName) ({ cls := "BalanceRoom", name := "room", desc := "()I" } : Jvm.MethodName)) ∈ zU := zU_i (i := 238) (by decide +kernel) (by decide +kernel)
set_option maxRecDepth 100000 in
theorem zw_239 : (Jvm.Cond.code ({ cls := "BalanceRoom", name := "room", desc := "()I" } : Jvm.MethodName) prog_1_method_5_code (2 : Nat) (Option.some Jvm.ClassFile.FieldType.int)) ∈ zU := zU_i (i := 239) (rfl) (by decide +kernel)
theorem zw_240 : (Jvm.Cond.methodLink "BalanceRoom" (71 : Nat) ({ cls := "BalanceRoom$Room", name := "takeFrom", desc := "(LBalanceRoom$Text;)V" } : Jvm.MethodName)) ∈ zU := zU_i (i := 240) (by decide +kernel) (by decide +kernel)
theorem zw_241 : (Jvm.Cond.instanceMethod ({ cls := "BalanceRoom$Room", name := "takeFrom", desc := "(LBalanceRoom$Text;)V" } : Jvm.MethodName)) ∈ zU := zU_i (i := 241) (by decide +kernel) (by decide +kernel)
theorem zw_242 : (Jvm.Cond.selects "BalanceRoom$Room" ({ cls := "BalanceRoom$Room", name := "takeFrom", desc := "(LBalanceRoom$Text;)V" } : Jvm.MethodName) ({ cls := "BalanceRoom$Room", name := "takeFrom", desc := "(LBalanceRoom$Text;)V" } : Jvm.MethodName)) ∈ zU := zU_i (i := 242) (by decide +kernel) (by decide +kernel)
set_option maxRecDepth 100000 in
theorem zw_243 : (Jvm.Cond.code ({ cls := "BalanceRoom$Room", name := "takeFrom", desc := "(LBalanceRoom$Text;)V" } : Jvm.MethodName) prog_5_method_3_code (3 : Nat) (Option.none : Option Jvm.ClassFile.FieldType)) ∈ zU := zU_i (i := 243) (rfl) (by decide +kernel)
theorem zw_244 : (Jvm.Cond.methodLink "BalanceRoom$Room" (34 : Nat) ({ cls := "BalanceRoom$Text", name := "weightsTold", desc := "()I" } : Jvm.MethodName)) ∈ zU := zU_i (i := 244) (by decide +kernel) (by decide +kernel)
theorem zw_245 : (Jvm.Cond.methodLink "BalanceRoom$Room" (40 : Nat) ({ cls := "BalanceRoom$Text", name := "masterTold", desc := "()I" } : Jvm.MethodName)) ∈ zU := zU_i (i := 245) (by decide +kernel) (by decide +kernel)
theorem zw_246 : (Jvm.Cond.instanceMethod ({ cls := "BalanceRoom$Text", name := "masterTold", desc := "()I" } : Jvm.MethodName)) ∈ zU := zU_i (i := 246) (by decide +kernel) (by decide +kernel)
theorem zw_247 : (Jvm.Cond.selects "BalanceRoom$Text" ({ cls := "BalanceRoom$Text", name := "masterTold", desc := "()I" } : Jvm.MethodName) ({ cls := "BalanceRoom$Text", name := "masterTold", desc := "()I" } : Jvm.MethodName)) ∈ zU := zU_i (i := 247) (by decide +kernel) (by decide +kernel)
set_option maxRecDepth 100000 in
theorem zw_248 : (Jvm.Cond.code ({ cls := "BalanceRoom$Text", name := "masterTold", desc := "()I" } : Jvm.MethodName) prog_6_method_9_code (1 : Nat) (Option.some Jvm.ClassFile.FieldType.int)) ∈ zU := zU_i (i := 248) (rfl) (by decide +kernel)
theorem zw_249 : (Jvm.Cond.methodLink "BalanceRoom$Text" (36 : Nat) ({ cls := "BalanceRoom$Text", name := "figureAt", desc := "(I)I" } : Jvm.MethodName)) ∈ zU := zU_i (i := 249) (by decide +kernel) (by decide +kernel)
theorem zw_251 : (Jvm.Cond.instanceMethod ({ cls := "BalanceRoom$Text", name := "figureAt", desc := "(I)I" } : Jvm.MethodName)) ∈ zU := zU_i (i := 251) (by decide +kernel) (by decide +kernel)
set_option maxRecDepth 100000 in
theorem zw_252 : (Jvm.Cond.code ({ cls := "BalanceRoom$Text", name := "figureAt", desc := "(I)I" } : Jvm.MethodName) prog_6_method_13_code (2 : Nat) (Option.some Jvm.ClassFile.FieldType.int)) ∈ zU := zU_i (i := 252) (rfl) (by decide +kernel)
theorem zw_253 : (Jvm.Cond.methodLink "BalanceRoom$Room" (43 : Nat) ({ cls := "BalanceRoom$Text", name := "weighingsTold", desc := "()I" } : Jvm.MethodName)) ∈ zU := zU_i (i := 253) (by decide +kernel) (by decide +kernel)
theorem zw_254 : (Jvm.Cond.instanceMethod ({ cls := "BalanceRoom$Text", name := "weighingsTold", desc := "()I" } : Jvm.MethodName)) ∈ zU := zU_i (i := 254) (by decide +kernel) (by decide +kernel)
theorem zw_255 : (Jvm.Cond.selects "BalanceRoom$Text" ({ cls := "BalanceRoom$Text", name := "weighingsTold", desc := "()I" } : Jvm.MethodName) ({ cls := "BalanceRoom$Text", name := "weighingsTold", desc := "()I" } : Jvm.MethodName)) ∈ zU := zU_i (i := 255) (by decide +kernel) (by decide +kernel)
set_option maxRecDepth 100000 in
theorem zw_256 : (Jvm.Cond.code ({ cls := "BalanceRoom$Text", name := "weighingsTold", desc := "()I" } : Jvm.MethodName) prog_6_method_8_code (1 : Nat) (Option.some Jvm.ClassFile.FieldType.int)) ∈ zU := zU_i (i := 256) (rfl) (by decide +kernel)
theorem zw_257 : (Jvm.Cond.methodLink "BalanceRoom$Room" (46 : Nat) ({ cls := "java/lang/Math", name := "min", desc := "(II)I" } : Jvm.MethodName)) ∈ zU := zU_i (i := 257) (by decide +kernel) (by decide +kernel)
theorem zw_258 : (Jvm.Cond.static ({ cls := "java/lang/Math", name := "min", desc := "(II)I" } : Jvm.MethodName)) ∈ zU := zU_i (i := 258) (by decide +kernel) (by decide +kernel)
set_option maxRecDepth 100000 in
theorem zw_259 : (Jvm.Cond.code ({ cls := "java/lang/Math", name := "min", desc := "(II)I" } : Jvm.MethodName) prog_10_method_69_code (2 : Nat) (Option.some Jvm.ClassFile.FieldType.int)) ∈ zU := zU_i (i := 259) (rfl) (by decide +kernel)
theorem zw_260 : (Jvm.Cond.methodLink "BalanceRoom$Room" (52 : Nat) ({ cls := "BalanceRoom$Text", name := "codeTold", desc := "(I)I" } : Jvm.MethodName)) ∈ zU := zU_i (i := 260) (by decide +kernel) (by decide +kernel)
theorem zw_261 : (Jvm.Cond.instanceMethod ({ cls := "BalanceRoom$Text", name := "codeTold", desc := "(I)I" } : Jvm.MethodName)) ∈ zU := zU_i (i := 261) (by decide +kernel) (by decide +kernel)
theorem zw_262 : (Jvm.Cond.selects "BalanceRoom$Text" ({ cls := "BalanceRoom$Text", name := "codeTold", desc := "(I)I" } : Jvm.MethodName) ({ cls := "BalanceRoom$Text", name := "codeTold", desc := "(I)I" } : Jvm.MethodName)) ∈ zU := zU_i (i := 262) (by decide +kernel) (by decide +kernel)
set_option maxRecDepth 100000 in
theorem zw_263 : (Jvm.Cond.code ({ cls := "BalanceRoom$Text", name := "codeTold", desc := "(I)I" } : Jvm.MethodName) prog_6_method_10_code (6 : Nat) (Option.some Jvm.ClassFile.FieldType.int)) ∈ zU := zU_i (i := 263) (rfl) (by decide +kernel)
theorem zw_264 : (Jvm.Cond.methodLink "BalanceRoom$Text" (40 : Nat) ({ cls := "BalanceRoom$Text", name := "startOf", desc := "(I)I" } : Jvm.MethodName)) ∈ zU := zU_i (i := 264) (by decide +kernel) (by decide +kernel)
theorem zw_266 : (Jvm.Cond.instanceMethod ({ cls := "BalanceRoom$Text", name := "startOf", desc := "(I)I" } : Jvm.MethodName)) ∈ zU := zU_i (i := 266) (by decide +kernel) (by decide +kernel)
set_option maxRecDepth 100000 in
theorem zw_267 : (Jvm.Cond.code ({ cls := "BalanceRoom$Text", name := "startOf", desc := "(I)I" } : Jvm.MethodName) prog_6_method_12_code (2 : Nat) (Option.some Jvm.ClassFile.FieldType.int)) ∈ zU := zU_i (i := 267) (rfl) (by decide +kernel)
theorem zw_268 : (Jvm.Cond.methodLink "BalanceRoom$Room" (56 : Nat) ({ cls := "BalanceRoom$Text", name := "readingTold", desc := "(I)I" } : Jvm.MethodName)) ∈ zU := zU_i (i := 268) (by decide +kernel) (by decide +kernel)
theorem zw_269 : (Jvm.Cond.instanceMethod ({ cls := "BalanceRoom$Text", name := "readingTold", desc := "(I)I" } : Jvm.MethodName)) ∈ zU := zU_i (i := 269) (by decide +kernel) (by decide +kernel)
theorem zw_270 : (Jvm.Cond.selects "BalanceRoom$Text" ({ cls := "BalanceRoom$Text", name := "readingTold", desc := "(I)I" } : Jvm.MethodName) ({ cls := "BalanceRoom$Text", name := "readingTold", desc := "(I)I" } : Jvm.MethodName)) ∈ zU := zU_i (i := 270) (by decide +kernel) (by decide +kernel)
set_option maxRecDepth 100000 in
theorem zw_271 : (Jvm.Cond.code ({ cls := "BalanceRoom$Text", name := "readingTold", desc := "(I)I" } : Jvm.MethodName) prog_6_method_11_code (4 : Nat) (Option.some Jvm.ClassFile.FieldType.int)) ∈ zU := zU_i (i := 271) (rfl) (by decide +kernel)
theorem zw_272 : (Jvm.Cond.methodLink "BalanceRoom" (75 : Nat) ({ cls := "BalanceRoom$Acts", name := "forgetAll", desc := "()V" } : Jvm.MethodName)) ∈ zU := zU_i (i := 272) (by decide +kernel) (by decide +kernel)
theorem zw_273 : (Jvm.Cond.instanceMethod ({ cls := "BalanceRoom$Acts", name := "forgetAll", desc := "()V" } : Jvm.MethodName)) ∈ zU := zU_i (i := 273) (by decide +kernel) (by decide +kernel)
theorem zw_274 : (Jvm.Cond.selects "BalanceRoom$Acts" ({ cls := "BalanceRoom$Acts", name := "forgetAll", desc := "()V" } : Jvm.MethodName) ({ cls := "BalanceRoom$Acts", name := "forgetAll", desc := "()V" } : Jvm.MethodName)) ∈ zU := zU_i (i := 274) (by decide +kernel) (by decide +kernel)
set_option maxRecDepth 100000 in
theorem zw_275 : (Jvm.Cond.code ({ cls := "BalanceRoom$Acts", name := "forgetAll", desc := "()V" } : Jvm.MethodName) prog_2_method_4_code (1 : Nat) (Option.none : Option Jvm.ClassFile.FieldType)) ∈ zU := zU_i (i := 275) (rfl) (by decide +kernel)
theorem zw_276 : (Jvm.Cond.methodLink "BalanceRoomLaw" (31 : Nat) ({ cls := "BalanceRoom", name := "code", desc := "(I)I" } : Jvm.MethodName)) ∈ zU := zU_i (i := 276) (by decide +kernel) (by decide +kernel)
theorem zw_277 : (Jvm.Cond.instanceMethod ({ cls := "BalanceRoom", name := "code", desc := "(I)I" } : Jvm.MethodName)) ∈ zU := zU_i (i := 277) (by decide +kernel) (by decide +kernel)
theorem zw_278 : (Jvm.Cond.selects "BalanceRoom" ({ cls := "BalanceRoom", name := "code", desc := "(I)I" } : Jvm.MethodName) ({ cls := "BalanceRoom", name := "code", desc := "(I)I" } : Jvm.MethodName)) ∈ zU := zU_i (i := 278) (by decide +kernel) (by decide +kernel)
set_option maxRecDepth 100000 in
theorem zw_279 : (Jvm.Cond.code ({ cls := "BalanceRoom", name := "code", desc := "(I)I" } : Jvm.MethodName) prog_1_method_6_code (2 : Nat) (Option.some Jvm.ClassFile.FieldType.int)) ∈ zU := zU_i (i := 279) (rfl) (by decide +kernel)
theorem zw_280 : (Jvm.Cond.methodLink "BalanceRoom" (81 : Nat) ({ cls := "BalanceRoom$Room", name := "has", desc := "(I)Z" } : Jvm.MethodName)) ∈ zU := zU_i (i := 280) (by decide +kernel) (by decide +kernel)
theorem zw_281 : (Jvm.Cond.instanceMethod ({ cls := "BalanceRoom$Room", name := "has", desc := "(I)Z" } : Jvm.MethodName)) ∈ zU := zU_i (i := 281) (by decide +kernel) (by decide +kernel)
theorem zw_282 : (Jvm.Cond.selects "BalanceRoom$Room" ({ cls := "BalanceRoom$Room", name := "has", desc := "(I)Z" } : Jvm.MethodName) ({ cls := "BalanceRoom$Room", name := "has", desc := "(I)Z" } : Jvm.MethodName)) ∈ zU := zU_i (i := 282) (by decide +kernel) (by decide +kernel)
set_option maxRecDepth 100000 in
theorem zw_283 : (Jvm.Cond.code ({ cls := "BalanceRoom$Room", name := "has", desc := "(I)Z" } : Jvm.MethodName) prog_5_method_4_code (2 : Nat) (Option.some Jvm.ClassFile.FieldType.boolean)) ∈ zU := zU_i (i := 283) (rfl) (by decide +kernel)
theorem zw_284 : (Jvm.Cond.methodLink "BalanceRoomLaw" (35 : Nat) ({ cls := "BalanceRoom", name := "reading", desc := "(I)I" } : Jvm.MethodName)) ∈ zU := zU_i (i := 284) (by decide +kernel) (by decide +kernel)
theorem zw_285 : (Jvm.Cond.instanceMethod ({ cls := "BalanceRoom", name := "reading", desc := "(I)I" } : Jvm.MethodName)) ∈ zU := zU_i (i := 285) (by decide +kernel) (by decide +kernel)
theorem zw_286 : (Jvm.Cond.selects "BalanceRoom" ({ cls := "BalanceRoom", name := "reading", desc := "(I)I" } : Jvm.MethodName) ({ cls := "BalanceRoom", name := "reading", desc := "(I)I" } : Jvm.MethodName)) ∈ zU := zU_i (i := 286) (by decide +kernel) (by decide +kernel)
set_option maxRecDepth 100000 in
theorem zw_287 : (Jvm.Cond.code ({ cls := "BalanceRoom", name := "reading", desc := "(I)I" } : Jvm.MethodName) prog_1_method_7_code (2 : Nat) (Option.some Jvm.ClassFile.FieldType.int)) ∈ zU := zU_i (i := 287) (rfl) (by decide +kernel)
theorem zw_288 : (Jvm.Cond.methodLink "BalanceRoomLaw" (39 : Nat) ({ cls := "BalanceRoom", name := "weigh", desc := "(II)I" } : Jvm.MethodName)) ∈ zU := zU_i (i := 288) (by decide +kernel) (by decide +kernel)
theorem zw_289 : (Jvm.Cond.instanceMethod ({ cls := "BalanceRoom", name := "weigh", desc := "(II)I" } : Jvm.MethodName)) ∈ zU := zU_i (i := 289) (by decide +kernel) (by decide +kernel)
theorem zw_290 : (Jvm.Cond.selects "BalanceRoom" ({ cls := "BalanceRoom", name := "weigh", desc := "(II)I" } : Jvm.MethodName) ({ cls := "BalanceRoom", name := "weigh", desc := "(II)I" } : Jvm.MethodName)) ∈ zU := zU_i (i := 290) (by decide +kernel) (by decide +kernel)
set_option maxRecDepth 100000 in
theorem zw_291 : (Jvm.Cond.code ({ cls := "BalanceRoom", name := "weigh", desc := "(II)I" } : Jvm.MethodName) prog_1_method_8_code (3 : Nat) (Option.some Jvm.ClassFile.FieldType.int)) ∈ zU := zU_i (i := 291) (rfl) (by decide +kernel)
theorem zw_292 : (Jvm.Cond.methodLink "BalanceRoom" (94 : Nat) ({ cls := "BalanceRoom", name := "isCode", desc := "(II)Z" } : Jvm.MethodName)) ∈ zU := zU_i (i := 292) (by decide +kernel) (by decide +kernel)
theorem zw_293 : (Jvm.Cond.static ({ cls := "BalanceRoom", name := "isCode", desc := "(II)Z" } : Jvm.MethodName)) ∈ zU := zU_i (i := 293) (by decide +kernel) (by decide +kernel)
set_option maxRecDepth 100000 in
theorem zw_294 : (Jvm.Cond.code ({ cls := "BalanceRoom", name := "isCode", desc := "(II)Z" } : Jvm.MethodName) prog_1_method_38_code (4 : Nat) (Option.some Jvm.ClassFile.FieldType.boolean)) ∈ zU := zU_i (i := 294) (rfl) (by decide +kernel)
theorem zw_295 : (Jvm.Cond.methodLink "BalanceRoom" (98 : Nat) ({ cls := "BalanceRoom", name := "isReading", desc := "(I)Z" } : Jvm.MethodName)) ∈ zU := zU_i (i := 295) (by decide +kernel) (by decide +kernel)
theorem zw_296 : (Jvm.Cond.static ({ cls := "BalanceRoom", name := "isReading", desc := "(I)Z" } : Jvm.MethodName)) ∈ zU := zU_i (i := 296) (by decide +kernel) (by decide +kernel)
set_option maxRecDepth 100000 in
theorem zw_297 : (Jvm.Cond.code ({ cls := "BalanceRoom", name := "isReading", desc := "(I)Z" } : Jvm.MethodName) prog_1_method_37_code (1 : Nat) (Option.some Jvm.ClassFile.FieldType.boolean)) ∈ zU := zU_i (i := 297) (rfl) (by decide +kernel)
theorem zw_298 : (Jvm.Cond.methodLink "BalanceRoom" (101 : Nat) ({ cls := "BalanceRoom$Acts", name := "remember", desc := "(LBalanceRoom$Room;)V" } : Jvm.MethodName)) ∈ zU := zU_i (i := 298) (by decide +kernel) (by decide +kernel)
theorem zw_299 : (Jvm.Cond.instanceMethod ({ cls := "BalanceRoom$Acts", name := "remember", desc := "(LBalanceRoom$Room;)V" } : Jvm.MethodName)) ∈ zU := zU_i (i := 299) (by decide +kernel) (by decide +kernel)
theorem zw_300 : (Jvm.Cond.selects "BalanceRoom$Acts" ({ cls := "BalanceRoom$Acts", name := "remember", desc := "(LBalanceRoom$Room;)V" } : Jvm.MethodName) ({ cls := "BalanceRoom$Acts", name := "remember", desc := "(LBalanceRoom$Room;)V" } : Jvm.MethodName)) ∈ zU := zU_i (i := 300) (by decide +kernel) (by decide +kernel)
set_option maxRecDepth 100000 in
theorem zw_301 : (Jvm.Cond.code ({ cls := "BalanceRoom$Acts", name := "remember", desc := "(LBalanceRoom$Room;)V" } : Jvm.MethodName) prog_2_method_2_code (2 : Nat) (Option.none : Option Jvm.ClassFile.FieldType)) ∈ zU := zU_i (i := 301) (rfl) (by decide +kernel)
theorem zw_302 : (Jvm.Cond.methodLink "BalanceRoom$Acts" (25 : Nat) ({ cls := "BalanceRoom$Room", name := "copy", desc := "(LBalanceRoom$Room;)V" } : Jvm.MethodName)) ∈ zU := zU_i (i := 302) (by decide +kernel) (by decide +kernel)
theorem zw_303 : (Jvm.Cond.instanceMethod ({ cls := "BalanceRoom$Room", name := "copy", desc := "(LBalanceRoom$Room;)V" } : Jvm.MethodName)) ∈ zU := zU_i (i := 303) (by decide +kernel) (by decide +kernel)
theorem zw_304 : (Jvm.Cond.selects "BalanceRoom$Room" ({ cls := "BalanceRoom$Room", name := "copy", desc := "(LBalanceRoom$Room;)V" } : Jvm.MethodName) ({ cls := "BalanceRoom$Room", name := "copy", desc := "(LBalanceRoom$Room;)V" } : Jvm.MethodName)) ∈ zU := zU_i (i := 304) (by decide +kernel) (by decide +kernel)
set_option maxRecDepth 100000 in
theorem zw_305 : (Jvm.Cond.code ({ cls := "BalanceRoom$Room", name := "copy", desc := "(LBalanceRoom$Room;)V" } : Jvm.MethodName) prog_5_method_2_code (2 : Nat) (Option.none : Option Jvm.ClassFile.FieldType)) ∈ zU := zU_i (i := 305) (rfl) (by decide +kernel)
theorem zw_306 : (Jvm.Cond.methodLink "BalanceRoom$Room" (28 : Nat) ({ cls := "java/lang/System", name := "arraycopy", desc := "(Ljava/lang/Object;ILjava/lang/Object;II)V" } : Jvm.MethodName)) ∈ zU := zU_i (i := 306) (by decide +kernel) (by decide +kernel)
theorem zw_307 : (Jvm.Cond.static ({ cls := "java/lang/System", name := "arraycopy", desc := "(Ljava/lang/Object;ILjava/lang/Object;II)V" } : Jvm.MethodName)) ∈ zU := zU_i (i := 307) (by decide +kernel) (by decide +kernel)
theorem zw_308 : (Jvm.Cond.native ({ cls := "java/lang/System", name := "arraycopy", desc := "(Ljava/lang/Object;ILjava/lang/Object;II)V" } : Jvm.MethodName)) ∈ zU := zU_i (i := 308) (by decide +kernel) (by decide +kernel)
theorem zw_309 : (Jvm.Cond.methodLink "BalanceRoom" (105 : Nat) ({ cls := "BalanceRoom$Room", name := "append", desc := "(II)V" } : Jvm.MethodName)) ∈ zU := zU_i (i := 309) (by decide +kernel) (by decide +kernel)
theorem zw_310 : (Jvm.Cond.instanceMethod ({ cls := "BalanceRoom$Room", name := "append", desc := "(II)V" } : Jvm.MethodName)) ∈ zU := zU_i (i := 310) (by decide +kernel) (by decide +kernel)
theorem zw_311 : (Jvm.Cond.selects "BalanceRoom$Room" ({ cls := "BalanceRoom$Room", name := "append", desc := "(II)V" } : Jvm.MethodName) ({ cls := "BalanceRoom$Room", name := "append", desc := "(II)V" } : Jvm.MethodName)) ∈ zU := zU_i (i := 311) (by decide +kernel) (by decide +kernel)
set_option maxRecDepth 100000 in
theorem zw_312 : (Jvm.Cond.code ({ cls := "BalanceRoom$Room", name := "append", desc := "(II)V" } : Jvm.MethodName) prog_5_method_7_code (3 : Nat) (Option.none : Option Jvm.ClassFile.FieldType)) ∈ zU := zU_i (i := 312) (rfl) (by decide +kernel)
theorem zw_313 : (Jvm.Cond.methodLink "BalanceRoomLaw" (44 : Nat) ({ cls := "BalanceRoom", name := "take", desc := "(I)I" } : Jvm.MethodName)) ∈ zU := zU_i (i := 313) (by decide +kernel) (by decide +kernel)
theorem zw_314 : (Jvm.Cond.instanceMethod ({ cls := "BalanceRoom", name := "take", desc := "(I)I" } : Jvm.MethodName)) ∈ zU := zU_i (i := 314) (by decide +kernel) (by decide +kernel)
theorem zw_315 : (Jvm.Cond.selects "BalanceRoom" ({ cls := "BalanceRoom", name := "take", desc := "(I)I" } : Jvm.MethodName) ({ cls := "BalanceRoom", name := "take", desc := "(I)I" } : Jvm.MethodName)) ∈ zU := zU_i (i := 315) (by decide +kernel) (by decide +kernel)
set_option maxRecDepth 100000 in
theorem zw_316 : (Jvm.Cond.code ({ cls := "BalanceRoom", name := "take", desc := "(I)I" } : Jvm.MethodName) prog_1_method_9_code (2 : Nat) (Option.some Jvm.ClassFile.FieldType.int)) ∈ zU := zU_i (i := 316) (rfl) (by decide +kernel)
theorem zw_317 : (Jvm.Cond.methodLink "BalanceRoom" (109 : Nat) ({ cls := "BalanceRoom$Room", name := "remove", desc := "(I)V" } : Jvm.MethodName)) ∈ zU := zU_i (i := 317) (by decide +kernel) (by decide +kernel)
theorem zw_318 : (Jvm.Cond.instanceMethod ({ cls := "BalanceRoom$Room", name := "remove", desc := "(I)V" } : Jvm.MethodName)) ∈ zU := zU_i (i := 318) (by decide +kernel) (by decide +kernel)
theorem zw_319 : (Jvm.Cond.selects "BalanceRoom$Room" ({ cls := "BalanceRoom$Room", name := "remove", desc := "(I)V" } : Jvm.MethodName) ({ cls := "BalanceRoom$Room", name := "remove", desc := "(I)V" } : Jvm.MethodName)) ∈ zU := zU_i (i := 319) (by decide +kernel) (by decide +kernel)
set_option maxRecDepth 100000 in
theorem zw_320 : (Jvm.Cond.code ({ cls := "BalanceRoom$Room", name := "remove", desc := "(I)V" } : Jvm.MethodName) prog_5_method_8_code (3 : Nat) (Option.none : Option Jvm.ClassFile.FieldType)) ∈ zU := zU_i (i := 320) (rfl) (by decide +kernel)
theorem zw_321 : (Jvm.Cond.methodLink "BalanceRoomLaw" (48 : Nat) ({ cls := "BalanceRoom", name := "swap", desc := "(II)I" } : Jvm.MethodName)) ∈ zU := zU_i (i := 321) (by decide +kernel) (by decide +kernel)
theorem zw_322 : (Jvm.Cond.instanceMethod ({ cls := "BalanceRoom", name := "swap", desc := "(II)I" } : Jvm.MethodName)) ∈ zU := zU_i (i := 322) (by decide +kernel) (by decide +kernel)
theorem zw_323 : (Jvm.Cond.selects "BalanceRoom" ({ cls := "BalanceRoom", name := "swap", desc := "(II)I" } : Jvm.MethodName) ({ cls := "BalanceRoom", name := "swap", desc := "(II)I" } : Jvm.MethodName)) ∈ zU := zU_i (i := 323) (by decide +kernel) (by decide +kernel)
set_option maxRecDepth 100000 in
theorem zw_324 : (Jvm.Cond.code ({ cls := "BalanceRoom", name := "swap", desc := "(II)I" } : Jvm.MethodName) prog_1_method_10_code (3 : Nat) (Option.some Jvm.ClassFile.FieldType.int)) ∈ zU := zU_i (i := 324) (rfl) (by decide +kernel)
theorem zw_325 : (Jvm.Cond.methodLink "BalanceRoom" (113 : Nat) ({ cls := "BalanceRoom$Room", name := "exchange", desc := "(II)V" } : Jvm.MethodName)) ∈ zU := zU_i (i := 325) (by decide +kernel) (by decide +kernel)
theorem zw_326 : (Jvm.Cond.instanceMethod ({ cls := "BalanceRoom$Room", name := "exchange", desc := "(II)V" } : Jvm.MethodName)) ∈ zU := zU_i (i := 326) (by decide +kernel) (by decide +kernel)
theorem zw_327 : (Jvm.Cond.selects "BalanceRoom$Room" ({ cls := "BalanceRoom$Room", name := "exchange", desc := "(II)V" } : Jvm.MethodName) ({ cls := "BalanceRoom$Room", name := "exchange", desc := "(II)V" } : Jvm.MethodName)) ∈ zU := zU_i (i := 327) (by decide +kernel) (by decide +kernel)
set_option maxRecDepth 100000 in
theorem zw_328 : (Jvm.Cond.code ({ cls := "BalanceRoom$Room", name := "exchange", desc := "(II)V" } : Jvm.MethodName) prog_5_method_9_code (5 : Nat) (Option.none : Option Jvm.ClassFile.FieldType)) ∈ zU := zU_i (i := 328) (rfl) (by decide +kernel)
theorem zw_329 : (Jvm.Cond.methodLink "BalanceRoomLaw" (52 : Nat) ({ cls := "BalanceRoom", name := "read", desc := "(II)I" } : Jvm.MethodName)) ∈ zU := zU_i (i := 329) (by decide +kernel) (by decide +kernel)
theorem zw_330 : (Jvm.Cond.instanceMethod ({ cls := "BalanceRoom", name := "read", desc := "(II)I" } : Jvm.MethodName)) ∈ zU := zU_i (i := 330) (by decide +kernel) (by decide +kernel)
theorem zw_331 : (Jvm.Cond.selects "BalanceRoom" ({ cls := "BalanceRoom", name := "read", desc := "(II)I" } : Jvm.MethodName) ({ cls := "BalanceRoom", name := "read", desc := "(II)I" } : Jvm.MethodName)) ∈ zU := zU_i (i := 331) (by decide +kernel) (by decide +kernel)
set_option maxRecDepth 100000 in
theorem zw_332 : (Jvm.Cond.code ({ cls := "BalanceRoom", name := "read", desc := "(II)I" } : Jvm.MethodName) prog_1_method_11_code (4 : Nat) (Option.some Jvm.ClassFile.FieldType.int)) ∈ zU := zU_i (i := 332) (rfl) (by decide +kernel)
theorem zw_333 : (Jvm.Cond.methodLink "BalanceRoomLaw" (56 : Nat) ({ cls := "BalanceRoom", name := "master", desc := "(I)I" } : Jvm.MethodName)) ∈ zU := zU_i (i := 333) (by decide +kernel) (by decide +kernel)
theorem zw_334 : (Jvm.Cond.instanceMethod ({ cls := "BalanceRoom", name := "master", desc := "(I)I" } : Jvm.MethodName)) ∈ zU := zU_i (i := 334) (by decide +kernel) (by decide +kernel)
theorem zw_335 : (Jvm.Cond.selects "BalanceRoom" ({ cls := "BalanceRoom", name := "master", desc := "(I)I" } : Jvm.MethodName) ({ cls := "BalanceRoom", name := "master", desc := "(I)I" } : Jvm.MethodName)) ∈ zU := zU_i (i := 335) (by decide +kernel) (by decide +kernel)
set_option maxRecDepth 100000 in
theorem zw_336 : (Jvm.Cond.code ({ cls := "BalanceRoom", name := "master", desc := "(I)I" } : Jvm.MethodName) prog_1_method_12_code (3 : Nat) (Option.some Jvm.ClassFile.FieldType.int)) ∈ zU := zU_i (i := 336) (rfl) (by decide +kernel)
theorem zw_337 : (Jvm.Cond.methodLink "BalanceRoomLaw" (60 : Nat) ({ cls := "BalanceRoom", name := "undo", desc := "()I" } : Jvm.MethodName)) ∈ zU := zU_i (i := 337) (by decide +kernel) (by decide +kernel)
theorem zw_338 : (Jvm.Cond.instanceMethod ({ cls := "BalanceRoom", name := "undo", desc := "()I" } : Jvm.MethodName)) ∈ zU := zU_i (i := 338) (by decide +kernel) (by decide +kernel)
theorem zw_339 : (Jvm.Cond.selects "BalanceRoom" ({ cls := "BalanceRoom", name := "undo", desc := "()I" } : Jvm.MethodName) ({ cls := "BalanceRoom", name := "undo", desc := "()I" } : Jvm.MethodName)) ∈ zU := zU_i (i := 339) (by decide +kernel) (by decide +kernel)
set_option maxRecDepth 100000 in
theorem zw_340 : (Jvm.Cond.code ({ cls := "BalanceRoom", name := "undo", desc := "()I" } : Jvm.MethodName) prog_1_method_13_code (1 : Nat) (Option.some Jvm.ClassFile.FieldType.int)) ∈ zU := zU_i (i := 340) (rfl) (by decide +kernel)
theorem zw_341 : (Jvm.Cond.methodLink "BalanceRoom" (122 : Nat) ({ cls := "BalanceRoom$Acts", name := "takeBack", desc := "(LBalanceRoom$Room;)V" } : Jvm.MethodName)) ∈ zU := zU_i (i := 341) (by decide +kernel) (by decide +kernel)
theorem zw_342 : (Jvm.Cond.instanceMethod ({ cls := "BalanceRoom$Acts", name := "takeBack", desc := "(LBalanceRoom$Room;)V" } : Jvm.MethodName)) ∈ zU := zU_i (i := 342) (by decide +kernel) (by decide +kernel)
theorem zw_343 : (Jvm.Cond.selects "BalanceRoom$Acts" ({ cls := "BalanceRoom$Acts", name := "takeBack", desc := "(LBalanceRoom$Room;)V" } : Jvm.MethodName) ({ cls := "BalanceRoom$Acts", name := "takeBack", desc := "(LBalanceRoom$Room;)V" } : Jvm.MethodName)) ∈ zU := zU_i (i := 343) (by decide +kernel) (by decide +kernel)
set_option maxRecDepth 100000 in
theorem zw_344 : (Jvm.Cond.code ({ cls := "BalanceRoom$Acts", name := "takeBack", desc := "(LBalanceRoom$Room;)V" } : Jvm.MethodName) prog_2_method_3_code (2 : Nat) (Option.none : Option Jvm.ClassFile.FieldType)) ∈ zU := zU_i (i := 344) (rfl) (by decide +kernel)
theorem zw_345 : (Jvm.Cond.methodLink "BalanceRoomLaw" (64 : Nat) ({ cls := "BalanceRoom", name := "rank", desc := "(Z)I" } : Jvm.MethodName)) ∈ zU := zU_i (i := 345) (by decide +kernel) (by decide +kernel)
theorem zw_346 : (Jvm.Cond.instanceMethod ({ cls := "BalanceRoom", name := "rank", desc := "(Z)I" } : Jvm.MethodName)) ∈ zU := zU_i (i := 346) (by decide +kernel) (by decide +kernel)
theorem zw_347 : (Jvm.Cond.selects "BalanceRoom" ({ cls := "BalanceRoom", name := "rank", desc := "(Z)I" } : Jvm.MethodName) ({ cls := "BalanceRoom", name := "rank", desc := "(Z)I" } : Jvm.MethodName)) ∈ zU := zU_i (i := 347) (by decide +kernel) (by decide +kernel)
set_option maxRecDepth 100000 in
theorem zw_348 : (Jvm.Cond.code ({ cls := "BalanceRoom", name := "rank", desc := "(Z)I" } : Jvm.MethodName) prog_1_method_14_code (2 : Nat) (Option.some Jvm.ClassFile.FieldType.int)) ∈ zU := zU_i (i := 348) (rfl) (by decide +kernel)
theorem zw_349 : (Jvm.Cond.methodLink "BalanceRoom" (125 : Nat) ({ cls := "BalanceRoom$Ranks", name := "ofAll", desc := "(LBalanceRoom$Room;Z)I" } : Jvm.MethodName)) ∈ zU := zU_i (i := 349) (by decide +kernel) (by decide +kernel)
theorem zw_350 : (Jvm.Cond.instanceMethod ({ cls := "BalanceRoom$Ranks", name := "ofAll", desc := "(LBalanceRoom$Room;Z)I" } : Jvm.MethodName)) ∈ zU := zU_i (i := 350) (by decide +kernel) (by decide +kernel)
theorem zw_351 : (Jvm.Cond.selects "BalanceRoom$Ranks" ({ cls := "BalanceRoom$Ranks", name := "ofAll", desc := "(LBalanceRoom$Room;Z)I" } : Jvm.MethodName) ({ cls := "BalanceRoom$Ranks", name := "ofAll", desc := "(LBalanceRoom$Room;Z)I" } : Jvm.MethodName)) ∈ zU := zU_i (i := 351) (by decide +kernel) (by decide +kernel)
set_option maxRecDepth 100000 in
theorem zw_352 : (Jvm.Cond.code ({ cls := "BalanceRoom$Ranks", name := "ofAll", desc := "(LBalanceRoom$Room;Z)I" } : Jvm.MethodName) prog_4_method_2_code (5 : Nat) (Option.some Jvm.ClassFile.FieldType.int)) ∈ zU := zU_i (i := 352) (rfl) (by decide +kernel)
theorem zw_353 : (Jvm.Cond.methodLink "BalanceRoom$Ranks" (29 : Nat) ({ cls := "BalanceRoom$Ranks", name := "extended", desc := "(ILBalanceRoom$Room;IZ)I" } : Jvm.MethodName)) ∈ zU := zU_i (i := 353) (by decide +kernel) (by decide +kernel)
theorem zw_355 : (Jvm.Cond.instanceMethod ({ cls := "BalanceRoom$Ranks", name := "extended", desc := "(ILBalanceRoom$Room;IZ)I" } : Jvm.MethodName)) ∈ zU := zU_i (i := 355) (by decide +kernel) (by decide +kernel)
set_option maxRecDepth 100000 in
theorem zw_356 : (Jvm.Cond.code ({ cls := "BalanceRoom$Ranks", name := "extended", desc := "(ILBalanceRoom$Room;IZ)I" } : Jvm.MethodName) prog_4_method_4_code (8 : Nat) (Option.some Jvm.ClassFile.FieldType.int)) ∈ zU := zU_i (i := 356) (rfl) (by decide +kernel)
theorem zw_357 : (Jvm.Cond.methodLink "BalanceRoom$Ranks" (39 : Nat) ({ cls := "BalanceRoom$Room", name := "unknowns", desc := "(Z)I" } : Jvm.MethodName)) ∈ zU := zU_i (i := 357) (by decide +kernel) (by decide +kernel)
theorem zw_358 : (Jvm.Cond.instanceMethod ({ cls := "BalanceRoom$Room", name := "unknowns", desc := "(Z)I" } : Jvm.MethodName)) ∈ zU := zU_i (i := 358) (by decide +kernel) (by decide +kernel)
theorem zw_359 : (Jvm.Cond.selects "BalanceRoom$Room" ({ cls := "BalanceRoom$Room", name := "unknowns", desc := "(Z)I" } : Jvm.MethodName) ({ cls := "BalanceRoom$Room", name := "unknowns", desc := "(Z)I" } : Jvm.MethodName)) ∈ zU := zU_i (i := 359) (by decide +kernel) (by decide +kernel)
set_option maxRecDepth 100000 in
theorem zw_360 : (Jvm.Cond.code ({ cls := "BalanceRoom$Room", name := "unknowns", desc := "(Z)I" } : Jvm.MethodName) prog_5_method_5_code (2 : Nat) (Option.some Jvm.ClassFile.FieldType.int)) ∈ zU := zU_i (i := 360) (rfl) (by decide +kernel)
theorem zw_361 : (Jvm.Cond.methodLink "BalanceRoom$Ranks" (43 : Nat) ({ cls := "BalanceRoom$Room", name := "layOut", desc := "(IZ[J)V" } : Jvm.MethodName)) ∈ zU := zU_i (i := 361) (by decide +kernel) (by decide +kernel)
theorem zw_362 : (Jvm.Cond.instanceMethod ({ cls := "BalanceRoom$Room", name := "layOut", desc := "(IZ[J)V" } : Jvm.MethodName)) ∈ zU := zU_i (i := 362) (by decide +kernel) (by decide +kernel)
theorem zw_363 : (Jvm.Cond.selects "BalanceRoom$Room" ({ cls := "BalanceRoom$Room", name := "layOut", desc := "(IZ[J)V" } : Jvm.MethodName) ({ cls := "BalanceRoom$Room", name := "layOut", desc := "(IZ[J)V" } : Jvm.MethodName)) ∈ zU := zU_i (i := 363) (by decide +kernel) (by decide +kernel)
set_option maxRecDepth 100000 in
theorem zw_364 : (Jvm.Cond.code ({ cls := "BalanceRoom$Room", name := "layOut", desc := "(IZ[J)V" } : Jvm.MethodName) prog_5_method_10_code (6 : Nat) (Option.none : Option Jvm.ClassFile.FieldType)) ∈ zU := zU_i (i := 364) (rfl) (by decide +kernel)
theorem zw_365 : (Jvm.Cond.methodLink "BalanceRoom$Room" (63 : Nat) ({ cls := "BalanceRoom$Room", name := "signOf", desc := "(I)I" } : Jvm.MethodName)) ∈ zU := zU_i (i := 365) (by decide +kernel) (by decide +kernel)
theorem zw_366 : (Jvm.Cond.static ({ cls := "BalanceRoom$Room", name := "signOf", desc := "(I)I" } : Jvm.MethodName)) ∈ zU := zU_i (i := 366) (by decide +kernel) (by decide +kernel)
set_option maxRecDepth 100000 in
theorem zw_367 : (Jvm.Cond.code ({ cls := "BalanceRoom$Room", name := "signOf", desc := "(I)I" } : Jvm.MethodName) prog_5_method_11_code (1 : Nat) (Option.some Jvm.ClassFile.FieldType.int)) ∈ zU := zU_i (i := 367) (rfl) (by decide +kernel)
theorem zw_368 : (Jvm.Cond.methodLink "BalanceRoom$Room" (59 : Nat) ({ cls := "BalanceRoom$Room", name := "unknowns", desc := "(Z)I" } : Jvm.MethodName)) ∈ zU := zU_i (i := 368) (by decide +kernel) (by decide +kernel)
theorem zw_369 : (Jvm.Cond.methodLink "BalanceRoom$Ranks" (47 : Nat) ({ cls := "BalanceRoom$Ranks", name := "reduce", desc := "([J[JII)V" } : Jvm.MethodName)) ∈ zU := zU_i (i := 369) (by decide +kernel) (by decide +kernel)
theorem zw_370 : (Jvm.Cond.static ({ cls := "BalanceRoom$Ranks", name := "reduce", desc := "([J[JII)V" } : Jvm.MethodName)) ∈ zU := zU_i (i := 370) (by decide +kernel) (by decide +kernel)
set_option maxRecDepth 100000 in
theorem zw_371 : (Jvm.Cond.code ({ cls := "BalanceRoom$Ranks", name := "reduce", desc := "([J[JII)V" } : Jvm.MethodName) prog_4_method_5_code (9 : Nat) (Option.none : Option Jvm.ClassFile.FieldType)) ∈ zU := zU_i (i := 371) (rfl) (by decide +kernel)
theorem zw_372 : (Jvm.Cond.methodLink "BalanceRoomLaw" (69 : Nat) ({ cls := "BalanceRoom", name := "value", desc := "(IZZ)J" } : Jvm.MethodName)) ∈ zU := zU_i (i := 372) (by decide +kernel) (by decide +kernel)
theorem zw_373 : (Jvm.Cond.instanceMethod ({ cls := "BalanceRoom", name := "value", desc := "(IZZ)J" } : Jvm.MethodName)) ∈ zU := zU_i (i := 373) (by decide +kernel) (by decide +kernel)
theorem zw_374 : (Jvm.Cond.selects "BalanceRoom" ({ cls := "BalanceRoom", name := "value", desc := "(IZZ)J" } : Jvm.MethodName) ({ cls := "BalanceRoom", name := "value", desc := "(IZZ)J" } : Jvm.MethodName)) ∈ zU := zU_i (i := 374) (by decide +kernel) (by decide +kernel)
set_option maxRecDepth 100000 in
theorem zw_375 : (Jvm.Cond.code ({ cls := "BalanceRoom", name := "value", desc := "(IZZ)J" } : Jvm.MethodName) prog_1_method_15_code (4 : Nat) (Option.some Jvm.ClassFile.FieldType.long)) ∈ zU := zU_i (i := 375) (rfl) (by decide +kernel)
theorem zw_376 : (Jvm.Cond.methodLink "BalanceRoom" (129 : Nat) ({ cls := "BalanceRoom$Room", name := "hasUnknown", desc := "(IZ)Z" } : Jvm.MethodName)) ∈ zU := zU_i (i := 376) (by decide +kernel) (by decide +kernel)
theorem zw_377 : (Jvm.Cond.instanceMethod ({ cls := "BalanceRoom$Room", name := "hasUnknown", desc := "(IZ)Z" } : Jvm.MethodName)) ∈ zU := zU_i (i := 377) (by decide +kernel) (by decide +kernel)
theorem zw_378 : (Jvm.Cond.selects "BalanceRoom$Room" ({ cls := "BalanceRoom$Room", name := "hasUnknown", desc := "(IZ)Z" } : Jvm.MethodName) ({ cls := "BalanceRoom$Room", name := "hasUnknown", desc := "(IZ)Z" } : Jvm.MethodName)) ∈ zU := zU_i (i := 378) (by decide +kernel) (by decide +kernel)
set_option maxRecDepth 100000 in
theorem zw_379 : (Jvm.Cond.code ({ cls := "BalanceRoom$Room", name := "hasUnknown", desc := "(IZ)Z" } : Jvm.MethodName) prog_5_method_6_code (3 : Nat) (Option.some Jvm.ClassFile.FieldType.boolean)) ∈ zU := zU_i (i := 379) (rfl) (by decide +kernel)
theorem zw_380 : (Jvm.Cond.constantLong "BalanceRoom" (133 : Nat) (-1 : Int64)) ∈ zU := zU_i (i := 380) (by decide +kernel) (by decide +kernel)
theorem zw_381 : (Jvm.Cond.methodLink "BalanceRoom" (135 : Nat) ({ cls := "BalanceRoom$Fit", name := "solves", desc := "(LBalanceRoom$Room;Z)Z" } : Jvm.MethodName)) ∈ zU := zU_i (i := 381) (by decide +kernel) (by decide +kernel)
theorem zw_382 : (Jvm.Cond.instanceMethod ({ cls := "BalanceRoom$Fit", name := "solves", desc := "(LBalanceRoom$Room;Z)Z" } : Jvm.MethodName)) ∈ zU := zU_i (i := 382) (by decide +kernel) (by decide +kernel)
theorem zw_383 : (Jvm.Cond.selects "BalanceRoom$Fit" ({ cls := "BalanceRoom$Fit", name := "solves", desc := "(LBalanceRoom$Room;Z)Z" } : Jvm.MethodName) ({ cls := "BalanceRoom$Fit", name := "solves", desc := "(LBalanceRoom$Room;Z)Z" } : Jvm.MethodName)) ∈ zU := zU_i (i := 383) (by decide +kernel) (by decide +kernel)
set_option maxRecDepth 100000 in
theorem zw_384 : (Jvm.Cond.code ({ cls := "BalanceRoom$Fit", name := "solves", desc := "(LBalanceRoom$Room;Z)Z" } : Jvm.MethodName) prog_3_method_2_code (3 : Nat) (Option.some Jvm.ClassFile.FieldType.boolean)) ∈ zU := zU_i (i := 384) (rfl) (by decide +kernel)
theorem zw_385 : (Jvm.Cond.methodLink "BalanceRoom$Fit" (38 : Nat) ({ cls := "BalanceRoom$Fit", name := "gather", desc := "(LBalanceRoom$Room;Z)V" } : Jvm.MethodName)) ∈ zU := zU_i (i := 385) (by decide +kernel) (by decide +kernel)
theorem zw_386 : (Jvm.Cond.instanceMethod ({ cls := "BalanceRoom$Fit", name := "gather", desc := "(LBalanceRoom$Room;Z)V" } : Jvm.MethodName)) ∈ zU := zU_i (i := 386) (by decide +kernel) (by decide +kernel)
theorem zw_387 : (Jvm.Cond.selects "BalanceRoom$Fit" ({ cls := "BalanceRoom$Fit", name := "gather", desc := "(LBalanceRoom$Room;Z)V" } : Jvm.MethodName) ({ cls := "BalanceRoom$Fit", name := "gather", desc := "(LBalanceRoom$Room;Z)V" } : Jvm.MethodName)) ∈ zU := zU_i (i := 387) (by decide +kernel) (by decide +kernel)
set_option maxRecDepth 100000 in
theorem zw_388 : (Jvm.Cond.code ({ cls := "BalanceRoom$Fit", name := "gather", desc := "(LBalanceRoom$Room;Z)V" } : Jvm.MethodName) prog_3_method_5_code (5 : Nat) (Option.none : Option Jvm.ClassFile.FieldType)) ∈ zU := zU_i (i := 388) (rfl) (by decide +kernel)
theorem zw_389 : (Jvm.Cond.methodLink "BalanceRoom$Fit" (55 : Nat) ({ cls := "BalanceRoom$Room", name := "unknowns", desc := "(Z)I" } : Jvm.MethodName)) ∈ zU := zU_i (i := 389) (by decide +kernel) (by decide +kernel)
theorem zw_390 : (Jvm.Cond.methodLink "BalanceRoom$Fit" (46 : Nat) ({ cls := "BalanceRoom$Fit", name := "put", desc := "(LBalanceRoom$Room;II)V" } : Jvm.MethodName)) ∈ zU := zU_i (i := 390) (by decide +kernel) (by decide +kernel)
theorem zw_392 : (Jvm.Cond.instanceMethod ({ cls := "BalanceRoom$Fit", name := "put", desc := "(LBalanceRoom$Room;II)V" } : Jvm.MethodName)) ∈ zU := zU_i (i := 392) (by decide +kernel) (by decide +kernel)
set_option maxRecDepth 100000 in
theorem zw_393 : (Jvm.Cond.code ({ cls := "BalanceRoom$Fit", name := "put", desc := "(LBalanceRoom$Room;II)V" } : Jvm.MethodName) prog_3_method_6_code (8 : Nat) (Option.none : Option Jvm.ClassFile.FieldType)) ∈ zU := zU_i (i := 393) (rfl) (by decide +kernel)
theorem zw_394 : (Jvm.Cond.methodLink "BalanceRoom$Fit" (62 : Nat) ({ cls := "BalanceRoom$Room", name := "layOut", desc := "(IZ[J)V" } : Jvm.MethodName)) ∈ zU := zU_i (i := 394) (by decide +kernel) (by decide +kernel)
theorem zw_395 : (Jvm.Cond.methodLink "BalanceRoom$Fit" (42 : Nat) ({ cls := "BalanceRoom$Fit", name := "sweepAll", desc := "(Z)Z" } : Jvm.MethodName)) ∈ zU := zU_i (i := 395) (by decide +kernel) (by decide +kernel)
theorem zw_397 : (Jvm.Cond.instanceMethod ({ cls := "BalanceRoom$Fit", name := "sweepAll", desc := "(Z)Z" } : Jvm.MethodName)) ∈ zU := zU_i (i := 397) (by decide +kernel) (by decide +kernel)
set_option maxRecDepth 100000 in
theorem zw_398 : (Jvm.Cond.code ({ cls := "BalanceRoom$Fit", name := "sweepAll", desc := "(Z)Z" } : Jvm.MethodName) prog_3_method_7_code (3 : Nat) (Option.some Jvm.ClassFile.FieldType.boolean)) ∈ zU := zU_i (i := 398) (rfl) (by decide +kernel)
theorem zw_399 : (Jvm.Cond.methodLink "BalanceRoom$Fit" (66 : Nat) ({ cls := "java/lang/System", name := "arraycopy", desc := "(Ljava/lang/Object;ILjava/lang/Object;II)V" } : Jvm.MethodName)) ∈ zU := zU_i (i := 399) (by decide +kernel) (by decide +kernel)
theorem zw_400 : (Jvm.Cond.methodLink "BalanceRoom$Fit" (72 : Nat) ({ cls := "BalanceRoom$Fit", name := "sweep", desc := "(II)V" } : Jvm.MethodName)) ∈ zU := zU_i (i := 400) (by decide +kernel) (by decide +kernel)
theorem zw_402 : (Jvm.Cond.instanceMethod ({ cls := "BalanceRoom$Fit", name := "sweep", desc := "(II)V" } : Jvm.MethodName)) ∈ zU := zU_i (i := 402) (by decide +kernel) (by decide +kernel)
set_option maxRecDepth 100000 in
theorem zw_403 : (Jvm.Cond.code ({ cls := "BalanceRoom$Fit", name := "sweep", desc := "(II)V" } : Jvm.MethodName) prog_3_method_8_code (6 : Nat) (Option.none : Option Jvm.ClassFile.FieldType)) ∈ zU := zU_i (i := 403) (rfl) (by decide +kernel)
theorem zw_404 : (Jvm.Cond.methodLink "BalanceRoom$Fit" (76 : Nat) ({ cls := "BalanceRoom$Fit", name := "sweepRow", desc := "(IIJ)V" } : Jvm.MethodName)) ∈ zU := zU_i (i := 404) (by decide +kernel) (by decide +kernel)
theorem zw_406 : (Jvm.Cond.instanceMethod ({ cls := "BalanceRoom$Fit", name := "sweepRow", desc := "(IIJ)V" } : Jvm.MethodName)) ∈ zU := zU_i (i := 406) (by decide +kernel) (by decide +kernel)
set_option maxRecDepth 100000 in
theorem zw_407 : (Jvm.Cond.code ({ cls := "BalanceRoom$Fit", name := "sweepRow", desc := "(IIJ)V" } : Jvm.MethodName) prog_3_method_9_code (10 : Nat) (Option.none : Option Jvm.ClassFile.FieldType)) ∈ zU := zU_i (i := 407) (rfl) (by decide +kernel)
theorem zw_408 : (Jvm.Cond.constantLong "BalanceRoom" (139 : Nat) (-3 : Int64)) ∈ zU := zU_i (i := 408) (by decide +kernel) (by decide +kernel)
theorem zw_409 : (Jvm.Cond.methodLink "BalanceRoom" (141 : Nat) ({ cls := "BalanceRoom$Fit", name := "valueAbove", desc := "(I)J" } : Jvm.MethodName)) ∈ zU := zU_i (i := 409) (by decide +kernel) (by decide +kernel)
theorem zw_410 : (Jvm.Cond.instanceMethod ({ cls := "BalanceRoom$Fit", name := "valueAbove", desc := "(I)J" } : Jvm.MethodName)) ∈ zU := zU_i (i := 410) (by decide +kernel) (by decide +kernel)
theorem zw_411 : (Jvm.Cond.selects "BalanceRoom$Fit" ({ cls := "BalanceRoom$Fit", name := "valueAbove", desc := "(I)J" } : Jvm.MethodName) ({ cls := "BalanceRoom$Fit", name := "valueAbove", desc := "(I)J" } : Jvm.MethodName)) ∈ zU := zU_i (i := 411) (by decide +kernel) (by decide +kernel)
set_option maxRecDepth 100000 in
theorem zw_412 : (Jvm.Cond.code ({ cls := "BalanceRoom$Fit", name := "valueAbove", desc := "(I)J" } : Jvm.MethodName) prog_3_method_10_code (2 : Nat) (Option.some Jvm.ClassFile.FieldType.long)) ∈ zU := zU_i (i := 412) (rfl) (by decide +kernel)
theorem zw_413 : (Jvm.Cond.methodLink "BalanceRoom" (148 : Nat) ({ cls := "BalanceRoom", name := "told", desc := "(JJZ)J" } : Jvm.MethodName)) ∈ zU := zU_i (i := 413) (by decide +kernel) (by decide +kernel)
theorem zw_414 : (Jvm.Cond.static ({ cls := "BalanceRoom", name := "told", desc := "(JJZ)J" } : Jvm.MethodName)) ∈ zU := zU_i (i := 414) (by decide +kernel) (by decide +kernel)
set_option maxRecDepth 100000 in
theorem zw_415 : (Jvm.Cond.code ({ cls := "BalanceRoom", name := "told", desc := "(JJZ)J" } : Jvm.MethodName) prog_1_method_42_code (7 : Nat) (Option.some Jvm.ClassFile.FieldType.long)) ∈ zU := zU_i (i := 415) (rfl) (by decide +kernel)
theorem zw_416 : (Jvm.Cond.methodLink "BalanceRoom" (234 : Nat) ({ cls := "java/lang/Math", name := "abs", desc := "(J)J" } : Jvm.MethodName)) ∈ zU := zU_i (i := 416) (by decide +kernel) (by decide +kernel)
theorem zw_417 : (Jvm.Cond.static ({ cls := "java/lang/Math", name := "abs", desc := "(J)J" } : Jvm.MethodName)) ∈ zU := zU_i (i := 417) (by decide +kernel) (by decide +kernel)
set_option maxRecDepth 100000 in
theorem zw_418 : (Jvm.Cond.code ({ cls := "java/lang/Math", name := "abs", desc := "(J)J" } : Jvm.MethodName) prog_10_method_61_code (2 : Nat) (Option.some Jvm.ClassFile.FieldType.long)) ∈ zU := zU_i (i := 418) (rfl) (by decide +kernel)
theorem zw_419 : (Jvm.Cond.methodLink "BalanceRoom" (240 : Nat) ({ cls := "BalanceRoom", name := "commonDivisor", desc := "(JJ)J" } : Jvm.MethodName)) ∈ zU := zU_i (i := 419) (by decide +kernel) (by decide +kernel)
theorem zw_420 : (Jvm.Cond.static ({ cls := "BalanceRoom", name := "commonDivisor", desc := "(JJ)J" } : Jvm.MethodName)) ∈ zU := zU_i (i := 420) (by decide +kernel) (by decide +kernel)
set_option maxRecDepth 100000 in
theorem zw_421 : (Jvm.Cond.code ({ cls := "BalanceRoom", name := "commonDivisor", desc := "(JJ)J" } : Jvm.MethodName) prog_1_method_43_code (11 : Nat) (Option.some Jvm.ClassFile.FieldType.long)) ∈ zU := zU_i (i := 421) (rfl) (by decide +kernel)
theorem zw_422 : (Jvm.Cond.methodLink "BalanceRoomLaw" (74 : Nat) ({ cls := "BalanceRoom", name := "spread", desc := "(IZZ)J" } : Jvm.MethodName)) ∈ zU := zU_i (i := 422) (by decide +kernel) (by decide +kernel)
theorem zw_423 : (Jvm.Cond.instanceMethod ({ cls := "BalanceRoom", name := "spread", desc := "(IZZ)J" } : Jvm.MethodName)) ∈ zU := zU_i (i := 423) (by decide +kernel) (by decide +kernel)
theorem zw_424 : (Jvm.Cond.selects "BalanceRoom" ({ cls := "BalanceRoom", name := "spread", desc := "(IZZ)J" } : Jvm.MethodName) ({ cls := "BalanceRoom", name := "spread", desc := "(IZZ)J" } : Jvm.MethodName)) ∈ zU := zU_i (i := 424) (by decide +kernel) (by decide +kernel)
set_option maxRecDepth 100000 in
theorem zw_425 : (Jvm.Cond.code ({ cls := "BalanceRoom", name := "spread", desc := "(IZZ)J" } : Jvm.MethodName) prog_1_method_16_code (4 : Nat) (Option.some Jvm.ClassFile.FieldType.long)) ∈ zU := zU_i (i := 425) (rfl) (by decide +kernel)
theorem zw_426 : (Jvm.Cond.methodLink "BalanceRoom" (152 : Nat) ({ cls := "BalanceRoom$Fit", name := "spreadAbove", desc := "(I)J" } : Jvm.MethodName)) ∈ zU := zU_i (i := 426) (by decide +kernel) (by decide +kernel)
theorem zw_427 : (Jvm.Cond.instanceMethod ({ cls := "BalanceRoom$Fit", name := "spreadAbove", desc := "(I)J" } : Jvm.MethodName)) ∈ zU := zU_i (i := 427) (by decide +kernel) (by decide +kernel)
theorem zw_428 : (Jvm.Cond.selects "BalanceRoom$Fit" ({ cls := "BalanceRoom$Fit", name := "spreadAbove", desc := "(I)J" } : Jvm.MethodName) ({ cls := "BalanceRoom$Fit", name := "spreadAbove", desc := "(I)J" } : Jvm.MethodName)) ∈ zU := zU_i (i := 428) (by decide +kernel) (by decide +kernel)
set_option maxRecDepth 100000 in
theorem zw_429 : (Jvm.Cond.code ({ cls := "BalanceRoom$Fit", name := "spreadAbove", desc := "(I)J" } : Jvm.MethodName) prog_3_method_11_code (2 : Nat) (Option.some Jvm.ClassFile.FieldType.long)) ∈ zU := zU_i (i := 429) (rfl) (by decide +kernel)
theorem zw_430 : (Jvm.Cond.methodLink "BalanceRoomLaw" (78 : Nat) ({ cls := "BalanceRoom", name := "total", desc := "(ZZ)J" } : Jvm.MethodName)) ∈ zU := zU_i (i := 430) (by decide +kernel) (by decide +kernel)
theorem zw_431 : (Jvm.Cond.instanceMethod ({ cls := "BalanceRoom", name := "total", desc := "(ZZ)J" } : Jvm.MethodName)) ∈ zU := zU_i (i := 431) (by decide +kernel) (by decide +kernel)
theorem zw_432 : (Jvm.Cond.selects "BalanceRoom" ({ cls := "BalanceRoom", name := "total", desc := "(ZZ)J" } : Jvm.MethodName) ({ cls := "BalanceRoom", name := "total", desc := "(ZZ)J" } : Jvm.MethodName)) ∈ zU := zU_i (i := 432) (by decide +kernel) (by decide +kernel)
set_option maxRecDepth 100000 in
theorem zw_433 : (Jvm.Cond.code ({ cls := "BalanceRoom", name := "total", desc := "(ZZ)J" } : Jvm.MethodName) prog_1_method_17_code (3 : Nat) (Option.some Jvm.ClassFile.FieldType.long)) ∈ zU := zU_i (i := 433) (rfl) (by decide +kernel)
theorem zw_434 : (Jvm.Cond.methodLink "BalanceRoom" (155 : Nat) ({ cls := "BalanceRoom$Fit", name := "totalAbove", desc := "()J" } : Jvm.MethodName)) ∈ zU := zU_i (i := 434) (by decide +kernel) (by decide +kernel)
theorem zw_435 : (Jvm.Cond.instanceMethod ({ cls := "BalanceRoom$Fit", name := "totalAbove", desc := "()J" } : Jvm.MethodName)) ∈ zU := zU_i (i := 435) (by decide +kernel) (by decide +kernel)
theorem zw_436 : (Jvm.Cond.selects "BalanceRoom$Fit" ({ cls := "BalanceRoom$Fit", name := "totalAbove", desc := "()J" } : Jvm.MethodName) ({ cls := "BalanceRoom$Fit", name := "totalAbove", desc := "()J" } : Jvm.MethodName)) ∈ zU := zU_i (i := 436) (by decide +kernel) (by decide +kernel)
set_option maxRecDepth 100000 in
theorem zw_437 : (Jvm.Cond.code ({ cls := "BalanceRoom$Fit", name := "totalAbove", desc := "()J" } : Jvm.MethodName) prog_3_method_12_code (4 : Nat) (Option.some Jvm.ClassFile.FieldType.long)) ∈ zU := zU_i (i := 437) (rfl) (by decide +kernel)
theorem zw_438 : (Jvm.Cond.methodLink "BalanceRoom$Fit" (80 : Nat) ({ cls := "BalanceRoom$Fit", name := "spreadAbove", desc := "(I)J" } : Jvm.MethodName)) ∈ zU := zU_i (i := 438) (by decide +kernel) (by decide +kernel)
theorem zw_439 : (Jvm.Cond.methodLink "BalanceRoomLaw" (83 : Nat) ({ cls := "BalanceRoom", name := "rest", desc := "(IZZ)J" } : Jvm.MethodName)) ∈ zU := zU_i (i := 439) (by decide +kernel) (by decide +kernel)
theorem zw_440 : (Jvm.Cond.instanceMethod ({ cls := "BalanceRoom", name := "rest", desc := "(IZZ)J" } : Jvm.MethodName)) ∈ zU := zU_i (i := 440) (by decide +kernel) (by decide +kernel)
theorem zw_441 : (Jvm.Cond.selects "BalanceRoom" ({ cls := "BalanceRoom", name := "rest", desc := "(IZZ)J" } : Jvm.MethodName) ({ cls := "BalanceRoom", name := "rest", desc := "(IZZ)J" } : Jvm.MethodName)) ∈ zU := zU_i (i := 441) (by decide +kernel) (by decide +kernel)
set_option maxRecDepth 100000 in
theorem zw_442 : (Jvm.Cond.code ({ cls := "BalanceRoom", name := "rest", desc := "(IZZ)J" } : Jvm.MethodName) prog_1_method_18_code (4 : Nat) (Option.some Jvm.ClassFile.FieldType.long)) ∈ zU := zU_i (i := 442) (rfl) (by decide +kernel)
theorem zw_443 : (Jvm.Cond.methodLink "BalanceRoom" (159 : Nat) ({ cls := "BalanceRoom$Fit", name := "restAbove", desc := "(LBalanceRoom$Room;I)J" } : Jvm.MethodName)) ∈ zU := zU_i (i := 443) (by decide +kernel) (by decide +kernel)
theorem zw_444 : (Jvm.Cond.instanceMethod ({ cls := "BalanceRoom$Fit", name := "restAbove", desc := "(LBalanceRoom$Room;I)J" } : Jvm.MethodName)) ∈ zU := zU_i (i := 444) (by decide +kernel) (by decide +kernel)
theorem zw_445 : (Jvm.Cond.selects "BalanceRoom$Fit" ({ cls := "BalanceRoom$Fit", name := "restAbove", desc := "(LBalanceRoom$Room;I)J" } : Jvm.MethodName) ({ cls := "BalanceRoom$Fit", name := "restAbove", desc := "(LBalanceRoom$Room;I)J" } : Jvm.MethodName)) ∈ zU := zU_i (i := 445) (by decide +kernel) (by decide +kernel)
set_option maxRecDepth 100000 in
theorem zw_446 : (Jvm.Cond.code ({ cls := "BalanceRoom$Fit", name := "restAbove", desc := "(LBalanceRoom$Room;I)J" } : Jvm.MethodName) prog_3_method_13_code (6 : Nat) (Option.some Jvm.ClassFile.FieldType.long)) ∈ zU := zU_i (i := 446) (rfl) (by decide +kernel)
theorem zw_447 : (Jvm.Cond.methodLink "BalanceRoom$Fit" (84 : Nat) ({ cls := "BalanceRoom$Fit", name := "valueAbove", desc := "(I)J" } : Jvm.MethodName)) ∈ zU := zU_i (i := 447) (by decide +kernel) (by decide +kernel)
theorem zw_448 : (Jvm.Cond.methodLink "BalanceRoomLaw" (87 : Nat) ({ cls := "BalanceRoom", name := "squares", desc := "(ZZ)J" } : Jvm.MethodName)) ∈ zU := zU_i (i := 448) (by decide +kernel) (by decide +kernel)
theorem zw_449 : (Jvm.Cond.instanceMethod ({ cls := "BalanceRoom", name := "squares", desc := "(ZZ)J" } : Jvm.MethodName)) ∈ zU := zU_i (i := 449) (by decide +kernel) (by decide +kernel)
theorem zw_450 : (Jvm.Cond.selects "BalanceRoom" ({ cls := "BalanceRoom", name := "squares", desc := "(ZZ)J" } : Jvm.MethodName) ({ cls := "BalanceRoom", name := "squares", desc := "(ZZ)J" } : Jvm.MethodName)) ∈ zU := zU_i (i := 450) (by decide +kernel) (by decide +kernel)
set_option maxRecDepth 100000 in
theorem zw_451 : (Jvm.Cond.code ({ cls := "BalanceRoom", name := "squares", desc := "(ZZ)J" } : Jvm.MethodName) prog_1_method_19_code (3 : Nat) (Option.some Jvm.ClassFile.FieldType.long)) ∈ zU := zU_i (i := 451) (rfl) (by decide +kernel)
theorem zw_452 : (Jvm.Cond.methodLink "BalanceRoom" (163 : Nat) ({ cls := "BalanceRoom$Fit", name := "squaresAbove", desc := "()J" } : Jvm.MethodName)) ∈ zU := zU_i (i := 452) (by decide +kernel) (by decide +kernel)
theorem zw_453 : (Jvm.Cond.instanceMethod ({ cls := "BalanceRoom$Fit", name := "squaresAbove", desc := "()J" } : Jvm.MethodName)) ∈ zU := zU_i (i := 453) (by decide +kernel) (by decide +kernel)
theorem zw_454 : (Jvm.Cond.selects "BalanceRoom$Fit" ({ cls := "BalanceRoom$Fit", name := "squaresAbove", desc := "()J" } : Jvm.MethodName) ({ cls := "BalanceRoom$Fit", name := "squaresAbove", desc := "()J" } : Jvm.MethodName)) ∈ zU := zU_i (i := 454) (by decide +kernel) (by decide +kernel)
set_option maxRecDepth 100000 in
theorem zw_455 : (Jvm.Cond.code ({ cls := "BalanceRoom$Fit", name := "squaresAbove", desc := "()J" } : Jvm.MethodName) prog_3_method_14_code (1 : Nat) (Option.some Jvm.ClassFile.FieldType.long)) ∈ zU := zU_i (i := 455) (rfl) (by decide +kernel)
theorem zw_456 : (Jvm.Cond.methodLink "BalanceRoomLaw" (91 : Nat) ({ cls := "BalanceRoom", name := "next", desc := "(Z)I" } : Jvm.MethodName)) ∈ zU := zU_i (i := 456) (by decide +kernel) (by decide +kernel)
theorem zw_457 : (Jvm.Cond.instanceMethod ({ cls := "BalanceRoom", name := "next", desc := "(Z)I" } : Jvm.MethodName)) ∈ zU := zU_i (i := 457) (by decide +kernel) (by decide +kernel)
theorem zw_458 : (Jvm.Cond.selects "BalanceRoom" ({ cls := "BalanceRoom", name := "next", desc := "(Z)I" } : Jvm.MethodName) ({ cls := "BalanceRoom", name := "next", desc := "(Z)I" } : Jvm.MethodName)) ∈ zU := zU_i (i := 458) (by decide +kernel) (by decide +kernel)
set_option maxRecDepth 100000 in
theorem zw_459 : (Jvm.Cond.code ({ cls := "BalanceRoom", name := "next", desc := "(Z)I" } : Jvm.MethodName) prog_1_method_20_code (10 : Nat) (Option.some Jvm.ClassFile.FieldType.int)) ∈ zU := zU_i (i := 459) (rfl) (by decide +kernel)
theorem zw_460 : (Jvm.Cond.methodLink "BalanceRoom" (166 : Nat) ({ cls := "BalanceRoom$Room", name := "copy", desc := "(LBalanceRoom$Room;)V" } : Jvm.MethodName)) ∈ zU := zU_i (i := 460) (by decide +kernel) (by decide +kernel)
theorem zw_461 : (Jvm.Cond.methodLink "BalanceRoom" (169 : Nat) ({ cls := "BalanceRoom", name := "power", desc := "(II)I" } : Jvm.MethodName)) ∈ zU := zU_i (i := 461) (by decide +kernel) (by decide +kernel)
theorem zw_462 : (Jvm.Cond.static ({ cls := "BalanceRoom", name := "power", desc := "(II)I" } : Jvm.MethodName)) ∈ zU := zU_i (i := 462) (by decide +kernel) (by decide +kernel)
set_option maxRecDepth 100000 in
theorem zw_463 : (Jvm.Cond.code ({ cls := "BalanceRoom", name := "power", desc := "(II)I" } : Jvm.MethodName) prog_1_method_40_code (4 : Nat) (Option.some Jvm.ClassFile.FieldType.int)) ∈ zU := zU_i (i := 463) (rfl) (by decide +kernel)
theorem zw_464 : (Jvm.Cond.methodLink "BalanceRoom" (173 : Nat) ({ cls := "BalanceRoom$Fit", name := "gather", desc := "(LBalanceRoom$Room;Z)V" } : Jvm.MethodName)) ∈ zU := zU_i (i := 464) (by decide +kernel) (by decide +kernel)
theorem zw_465 : (Jvm.Cond.methodLink "BalanceRoom" (177 : Nat) ({ cls := "BalanceRoom", name := "numbered", desc := "(II)I" } : Jvm.MethodName)) ∈ zU := zU_i (i := 465) (by decide +kernel) (by decide +kernel)
theorem zw_466 : (Jvm.Cond.static ({ cls := "BalanceRoom", name := "numbered", desc := "(II)I" } : Jvm.MethodName)) ∈ zU := zU_i (i := 466) (by decide +kernel) (by decide +kernel)
set_option maxRecDepth 100000 in
theorem zw_467 : (Jvm.Cond.code ({ cls := "BalanceRoom", name := "numbered", desc := "(II)I" } : Jvm.MethodName) prog_1_method_39_code (6 : Nat) (Option.some Jvm.ClassFile.FieldType.int)) ∈ zU := zU_i (i := 467) (rfl) (by decide +kernel)
theorem zw_468 : (Jvm.Cond.methodLink "BalanceRoom" (180 : Nat) ({ cls := "BalanceRoom$Fit", name := "solvesWith", desc := "(LBalanceRoom$Room;I)Z" } : Jvm.MethodName)) ∈ zU := zU_i (i := 468) (by decide +kernel) (by decide +kernel)
theorem zw_469 : (Jvm.Cond.instanceMethod ({ cls := "BalanceRoom$Fit", name := "solvesWith", desc := "(LBalanceRoom$Room;I)Z" } : Jvm.MethodName)) ∈ zU := zU_i (i := 469) (by decide +kernel) (by decide +kernel)
theorem zw_470 : (Jvm.Cond.selects "BalanceRoom$Fit" ({ cls := "BalanceRoom$Fit", name := "solvesWith", desc := "(LBalanceRoom$Room;I)Z" } : Jvm.MethodName) ({ cls := "BalanceRoom$Fit", name := "solvesWith", desc := "(LBalanceRoom$Room;I)Z" } : Jvm.MethodName)) ∈ zU := zU_i (i := 470) (by decide +kernel) (by decide +kernel)
set_option maxRecDepth 100000 in
theorem zw_471 : (Jvm.Cond.code ({ cls := "BalanceRoom$Fit", name := "solvesWith", desc := "(LBalanceRoom$Room;I)Z" } : Jvm.MethodName) prog_3_method_3_code (4 : Nat) (Option.some Jvm.ClassFile.FieldType.boolean)) ∈ zU := zU_i (i := 471) (rfl) (by decide +kernel)
theorem zw_472 : (Jvm.Cond.methodLink "BalanceRoom" (184 : Nat) ({ cls := "BalanceRoom", name := "isLess", desc := "(JJJJ)Z" } : Jvm.MethodName)) ∈ zU := zU_i (i := 472) (by decide +kernel) (by decide +kernel)
theorem zw_473 : (Jvm.Cond.static ({ cls := "BalanceRoom", name := "isLess", desc := "(JJJJ)Z" } : Jvm.MethodName)) ∈ zU := zU_i (i := 473) (by decide +kernel) (by decide +kernel)
set_option maxRecDepth 100000 in
theorem zw_474 : (Jvm.Cond.code ({ cls := "BalanceRoom", name := "isLess", desc := "(JJJJ)Z" } : Jvm.MethodName) prog_1_method_41_code (8 : Nat) (Option.some Jvm.ClassFile.FieldType.boolean)) ∈ zU := zU_i (i := 474) (rfl) (by decide +kernel)
theorem zw_475 : (Jvm.Cond.methodLink "BalanceRoomLaw" (95 : Nat) ({ cls := "BalanceRoom", name := "better", desc := "()I" } : Jvm.MethodName)) ∈ zU := zU_i (i := 475) (by decide +kernel) (by decide +kernel)
theorem zw_476 : (Jvm.Cond.instanceMethod ({ cls := "BalanceRoom", name := "better", desc := "()I" } : Jvm.MethodName)) ∈ zU := zU_i (i := 476) (by decide +kernel) (by decide +kernel)
theorem zw_477 : (Jvm.Cond.selects "BalanceRoom" ({ cls := "BalanceRoom", name := "better", desc := "()I" } : Jvm.MethodName) ({ cls := "BalanceRoom", name := "better", desc := "()I" } : Jvm.MethodName)) ∈ zU := zU_i (i := 477) (by decide +kernel) (by decide +kernel)
set_option maxRecDepth 100000 in
theorem zw_478 : (Jvm.Cond.code ({ cls := "BalanceRoom", name := "better", desc := "()I" } : Jvm.MethodName) prog_1_method_21_code (8 : Nat) (Option.some Jvm.ClassFile.FieldType.int)) ∈ zU := zU_i (i := 478) (rfl) (by decide +kernel)
theorem zw_479 : (Jvm.Cond.methodLink "BalanceRoomLaw" (99 : Nat) ({ cls := "BalanceRoom", name := "doubtful", desc := "(Z)I" } : Jvm.MethodName)) ∈ zU := zU_i (i := 479) (by decide +kernel) (by decide +kernel)
theorem zw_480 : (Jvm.Cond.instanceMethod ({ cls := "BalanceRoom", name := "doubtful", desc := "(Z)I" } : Jvm.MethodName)) ∈ zU := zU_i (i := 480) (by decide +kernel) (by decide +kernel)
theorem zw_481 : (Jvm.Cond.selects "BalanceRoom" ({ cls := "BalanceRoom", name := "doubtful", desc := "(Z)I" } : Jvm.MethodName) ({ cls := "BalanceRoom", name := "doubtful", desc := "(Z)I" } : Jvm.MethodName)) ∈ zU := zU_i (i := 481) (by decide +kernel) (by decide +kernel)
set_option maxRecDepth 100000 in
theorem zw_482 : (Jvm.Cond.code ({ cls := "BalanceRoom", name := "doubtful", desc := "(Z)I" } : Jvm.MethodName) prog_1_method_22_code (2 : Nat) (Option.some Jvm.ClassFile.FieldType.int)) ∈ zU := zU_i (i := 482) (rfl) (by decide +kernel)
theorem zw_483 : (Jvm.Cond.methodLink "BalanceRoom" (188 : Nat) ({ cls := "BalanceRoom$Fit", name := "mostDoubtful", desc := "(LBalanceRoom$Room;Z)I" } : Jvm.MethodName)) ∈ zU := zU_i (i := 483) (by decide +kernel) (by decide +kernel)
theorem zw_484 : (Jvm.Cond.instanceMethod ({ cls := "BalanceRoom$Fit", name := "mostDoubtful", desc := "(LBalanceRoom$Room;Z)I" } : Jvm.MethodName)) ∈ zU := zU_i (i := 484) (by decide +kernel) (by decide +kernel)
theorem zw_485 : (Jvm.Cond.selects "BalanceRoom$Fit" ({ cls := "BalanceRoom$Fit", name := "mostDoubtful", desc := "(LBalanceRoom$Room;Z)I" } : Jvm.MethodName) ({ cls := "BalanceRoom$Fit", name := "mostDoubtful", desc := "(LBalanceRoom$Room;Z)I" } : Jvm.MethodName)) ∈ zU := zU_i (i := 485) (by decide +kernel) (by decide +kernel)
set_option maxRecDepth 100000 in
theorem zw_486 : (Jvm.Cond.code ({ cls := "BalanceRoom$Fit", name := "mostDoubtful", desc := "(LBalanceRoom$Room;Z)I" } : Jvm.MethodName) prog_3_method_15_code (9 : Nat) (Option.some Jvm.ClassFile.FieldType.int)) ∈ zU := zU_i (i := 486) (rfl) (by decide +kernel)
theorem zw_487 : (Jvm.Cond.methodLink "BalanceRoom$Fit" (87 : Nat) ({ cls := "BalanceRoom$Fit", name := "solvesWithout", desc := "(LBalanceRoom$Room;I)Z" } : Jvm.MethodName)) ∈ zU := zU_i (i := 487) (by decide +kernel) (by decide +kernel)
theorem zw_489 : (Jvm.Cond.instanceMethod ({ cls := "BalanceRoom$Fit", name := "solvesWithout", desc := "(LBalanceRoom$Room;I)Z" } : Jvm.MethodName)) ∈ zU := zU_i (i := 489) (by decide +kernel) (by decide +kernel)
set_option maxRecDepth 100000 in
theorem zw_490 : (Jvm.Cond.code ({ cls := "BalanceRoom$Fit", name := "solvesWithout", desc := "(LBalanceRoom$Room;I)Z" } : Jvm.MethodName) prog_3_method_4_code (4 : Nat) (Option.some Jvm.ClassFile.FieldType.boolean)) ∈ zU := zU_i (i := 490) (rfl) (by decide +kernel)
theorem zw_491 : (Jvm.Cond.methodLink "BalanceRoom$Fit" (91 : Nat) ({ cls := "BalanceRoom$Fit", name := "squaresAbove", desc := "()J" } : Jvm.MethodName)) ∈ zU := zU_i (i := 491) (by decide +kernel) (by decide +kernel)
theorem zl_492 : (Jvm.Cond.methodLinkNest "BalanceRoom$Fit" (95 : Nat) ({ cls := "BalanceRoom", name := "isLess", desc := "(JJJJ)Z" } : Jvm.MethodName) "BalanceRoom") ∈ lw_tbl := List.mem_of_getElem? (i := 492) (by decide +kernel)
theorem zw_493 : (Jvm.Cond.methodLink "BalanceRoomLaw" (103 : Nat) ({ cls := "BalanceRoom", name := "wrong", desc := "(Z)I" } : Jvm.MethodName)) ∈ zU := zU_i (i := 493) (by decide +kernel) (by decide +kernel)
theorem zw_494 : (Jvm.Cond.instanceMethod ({ cls := "BalanceRoom", name := "wrong", desc := "(Z)I" } : Jvm.MethodName)) ∈ zU := zU_i (i := 494) (by decide +kernel) (by decide +kernel)
theorem zw_495 : (Jvm.Cond.selects "BalanceRoom" ({ cls := "BalanceRoom", name := "wrong", desc := "(Z)I" } : Jvm.MethodName) ({ cls := "BalanceRoom", name := "wrong", desc := "(Z)I" } : Jvm.MethodName)) ∈ zU := zU_i (i := 495) (by decide +kernel) (by decide +kernel)
set_option maxRecDepth 100000 in
theorem zw_496 : (Jvm.Cond.code ({ cls := "BalanceRoom", name := "wrong", desc := "(Z)I" } : Jvm.MethodName) prog_1_method_23_code (2 : Nat) (Option.some Jvm.ClassFile.FieldType.int)) ∈ zU := zU_i (i := 496) (rfl) (by decide +kernel)
theorem zw_497 : (Jvm.Cond.methodLink "BalanceRoom" (191 : Nat) ({ cls := "BalanceRoom$Fit", name := "thoseAlone", desc := "(LBalanceRoom$Room;Z)I" } : Jvm.MethodName)) ∈ zU := zU_i (i := 497) (by decide +kernel) (by decide +kernel)
theorem zw_498 : (Jvm.Cond.instanceMethod ({ cls := "BalanceRoom$Fit", name := "thoseAlone", desc := "(LBalanceRoom$Room;Z)I" } : Jvm.MethodName)) ∈ zU := zU_i (i := 498) (by decide +kernel) (by decide +kernel)
theorem zw_499 : (Jvm.Cond.selects "BalanceRoom$Fit" ({ cls := "BalanceRoom$Fit", name := "thoseAlone", desc := "(LBalanceRoom$Room;Z)I" } : Jvm.MethodName) ({ cls := "BalanceRoom$Fit", name := "thoseAlone", desc := "(LBalanceRoom$Room;Z)I" } : Jvm.MethodName)) ∈ zU := zU_i (i := 499) (by decide +kernel) (by decide +kernel)
set_option maxRecDepth 100000 in
theorem zw_500 : (Jvm.Cond.code ({ cls := "BalanceRoom$Fit", name := "thoseAlone", desc := "(LBalanceRoom$Room;Z)I" } : Jvm.MethodName) prog_3_method_16_code (5 : Nat) (Option.some Jvm.ClassFile.FieldType.int)) ∈ zU := zU_i (i := 500) (rfl) (by decide +kernel)
theorem zw_501 : (Jvm.Cond.methodLink "BalanceRoomLaw" (109 : Nat) ({ cls := "BalanceRoom", name := "judge", desc := "(IJ)I" } : Jvm.MethodName)) ∈ zU := zU_i (i := 501) (by decide +kernel) (by decide +kernel)
theorem zw_502 : (Jvm.Cond.instanceMethod ({ cls := "BalanceRoom", name := "judge", desc := "(IJ)I" } : Jvm.MethodName)) ∈ zU := zU_i (i := 502) (by decide +kernel) (by decide +kernel)
theorem zw_503 : (Jvm.Cond.selects "BalanceRoom" ({ cls := "BalanceRoom", name := "judge", desc := "(IJ)I" } : Jvm.MethodName) ({ cls := "BalanceRoom", name := "judge", desc := "(IJ)I" } : Jvm.MethodName)) ∈ zU := zU_i (i := 503) (by decide +kernel) (by decide +kernel)
set_option maxRecDepth 100000 in
theorem zw_504 : (Jvm.Cond.code ({ cls := "BalanceRoom", name := "judge", desc := "(IJ)I" } : Jvm.MethodName) prog_1_method_24_code (7 : Nat) (Option.some Jvm.ClassFile.FieldType.int)) ∈ zU := zU_i (i := 504) (rfl) (by decide +kernel)
theorem zw_505 : (Jvm.Cond.constantLong "BalanceRoom" (194 : Nat) (10000 : Int64)) ∈ zU := zU_i (i := 505) (by decide +kernel) (by decide +kernel)
theorem zw_506 : (Jvm.Cond.methodLink "BalanceRoom" (196 : Nat) ({ cls := "BalanceRoom", name := "holds", desc := "(I)Z" } : Jvm.MethodName)) ∈ zU := zU_i (i := 506) (by decide +kernel) (by decide +kernel)
theorem zw_508 : (Jvm.Cond.instanceMethod ({ cls := "BalanceRoom", name := "holds", desc := "(I)Z" } : Jvm.MethodName)) ∈ zU := zU_i (i := 508) (by decide +kernel) (by decide +kernel)
set_option maxRecDepth 100000 in
theorem zw_509 : (Jvm.Cond.code ({ cls := "BalanceRoom", name := "holds", desc := "(I)Z" } : Jvm.MethodName) prog_1_method_32_code (6 : Nat) (Option.some Jvm.ClassFile.FieldType.boolean)) ∈ zU := zU_i (i := 509) (rfl) (by decide +kernel)
theorem zw_510 : (Jvm.Cond.methodLink "BalanceRoom" (225 : Nat) ({ cls := "BalanceRoom", name := "exchanged", desc := "(II)Z" } : Jvm.MethodName)) ∈ zU := zU_i (i := 510) (by decide +kernel) (by decide +kernel)
theorem zw_512 : (Jvm.Cond.instanceMethod ({ cls := "BalanceRoom", name := "exchanged", desc := "(II)Z" } : Jvm.MethodName)) ∈ zU := zU_i (i := 512) (by decide +kernel) (by decide +kernel)
set_option maxRecDepth 100000 in
theorem zw_513 : (Jvm.Cond.code ({ cls := "BalanceRoom", name := "exchanged", desc := "(II)Z" } : Jvm.MethodName) prog_1_method_33_code (3 : Nat) (Option.some Jvm.ClassFile.FieldType.boolean)) ∈ zU := zU_i (i := 513) (rfl) (by decide +kernel)
theorem zw_514 : (Jvm.Cond.methodLink "BalanceRoom" (228 : Nat) ({ cls := "BalanceRoom", name := "removed", desc := "(I)Z" } : Jvm.MethodName)) ∈ zU := zU_i (i := 514) (by decide +kernel) (by decide +kernel)
theorem zw_516 : (Jvm.Cond.instanceMethod ({ cls := "BalanceRoom", name := "removed", desc := "(I)Z" } : Jvm.MethodName)) ∈ zU := zU_i (i := 516) (by decide +kernel) (by decide +kernel)
set_option maxRecDepth 100000 in
theorem zw_517 : (Jvm.Cond.code ({ cls := "BalanceRoom", name := "removed", desc := "(I)Z" } : Jvm.MethodName) prog_1_method_34_code (2 : Nat) (Option.some Jvm.ClassFile.FieldType.boolean)) ∈ zU := zU_i (i := 517) (rfl) (by decide +kernel)
theorem zw_518 : (Jvm.Cond.methodLink "BalanceRoom" (231 : Nat) ({ cls := "BalanceRoom", name := "masterSet", desc := "(I)Z" } : Jvm.MethodName)) ∈ zU := zU_i (i := 518) (by decide +kernel) (by decide +kernel)
theorem zw_520 : (Jvm.Cond.instanceMethod ({ cls := "BalanceRoom", name := "masterSet", desc := "(I)Z" } : Jvm.MethodName)) ∈ zU := zU_i (i := 520) (by decide +kernel) (by decide +kernel)
set_option maxRecDepth 100000 in
theorem zw_521 : (Jvm.Cond.code ({ cls := "BalanceRoom", name := "masterSet", desc := "(I)Z" } : Jvm.MethodName) prog_1_method_35_code (2 : Nat) (Option.some Jvm.ClassFile.FieldType.boolean)) ∈ zU := zU_i (i := 521) (rfl) (by decide +kernel)
theorem zw_522 : (Jvm.Cond.methodLink "BalanceRoomLaw" (114 : Nat) ({ cls := "BalanceRoom", name := "share", desc := "(IZZ)I" } : Jvm.MethodName)) ∈ zU := zU_i (i := 522) (by decide +kernel) (by decide +kernel)
theorem zw_523 : (Jvm.Cond.instanceMethod ({ cls := "BalanceRoom", name := "share", desc := "(IZZ)I" } : Jvm.MethodName)) ∈ zU := zU_i (i := 523) (by decide +kernel) (by decide +kernel)
theorem zw_524 : (Jvm.Cond.selects "BalanceRoom" ({ cls := "BalanceRoom", name := "share", desc := "(IZZ)I" } : Jvm.MethodName) ({ cls := "BalanceRoom", name := "share", desc := "(IZZ)I" } : Jvm.MethodName)) ∈ zU := zU_i (i := 524) (by decide +kernel) (by decide +kernel)
set_option maxRecDepth 100000 in
theorem zw_525 : (Jvm.Cond.code ({ cls := "BalanceRoom", name := "share", desc := "(IZZ)I" } : Jvm.MethodName) prog_1_method_25_code (10 : Nat) (Option.some Jvm.ClassFile.FieldType.int)) ∈ zU := zU_i (i := 525) (rfl) (by decide +kernel)
theorem zw_526 : (Jvm.Cond.methodLink "BalanceRoom" (199 : Nat) ({ cls := "BalanceRoom$Ranks", name := "ofEach", desc := "(LBalanceRoom$Room;Z)V" } : Jvm.MethodName)) ∈ zU := zU_i (i := 526) (by decide +kernel) (by decide +kernel)
theorem zw_527 : (Jvm.Cond.instanceMethod ({ cls := "BalanceRoom$Ranks", name := "ofEach", desc := "(LBalanceRoom$Room;Z)V" } : Jvm.MethodName)) ∈ zU := zU_i (i := 527) (by decide +kernel) (by decide +kernel)
theorem zw_528 : (Jvm.Cond.selects "BalanceRoom$Ranks" ({ cls := "BalanceRoom$Ranks", name := "ofEach", desc := "(LBalanceRoom$Room;Z)V" } : Jvm.MethodName) ({ cls := "BalanceRoom$Ranks", name := "ofEach", desc := "(LBalanceRoom$Room;Z)V" } : Jvm.MethodName)) ∈ zU := zU_i (i := 528) (by decide +kernel) (by decide +kernel)
set_option maxRecDepth 100000 in
theorem zw_529 : (Jvm.Cond.code ({ cls := "BalanceRoom$Ranks", name := "ofEach", desc := "(LBalanceRoom$Room;Z)V" } : Jvm.MethodName) prog_4_method_3_code (6 : Nat) (Option.none : Option Jvm.ClassFile.FieldType)) ∈ zU := zU_i (i := 529) (rfl) (by decide +kernel)
theorem zw_530 : (Jvm.Cond.methodLink "BalanceRoom$Ranks" (33 : Nat) ({ cls := "java/lang/Integer", name := "bitCount", desc := "(I)I" } : Jvm.MethodName)) ∈ zU := zU_i (i := 530) (by decide +kernel) (by decide +kernel)
theorem zw_531 : (Jvm.Cond.static ({ cls := "java/lang/Integer", name := "bitCount", desc := "(I)I" } : Jvm.MethodName)) ∈ zU := zU_i (i := 531) (by decide +kernel) (by decide +kernel)
set_option maxRecDepth 100000 in
theorem zw_532 : (Jvm.Cond.code ({ cls := "java/lang/Integer", name := "bitCount", desc := "(I)I" } : Jvm.MethodName) prog_9_method_49_code (1 : Nat) (Option.some Jvm.ClassFile.FieldType.int)) ∈ zU := zU_i (i := 532) (rfl) (by decide +kernel)
theorem zw_533 : (Jvm.Cond.constant "java/lang/Integer" (265 : Nat) (1431655765 : Int32)) ∈ zU := zU_i (i := 533) (by decide +kernel) (by decide +kernel)
theorem zw_534 : (Jvm.Cond.constant "java/lang/Integer" (266 : Nat) (858993459 : Int32)) ∈ zU := zU_i (i := 534) (by decide +kernel) (by decide +kernel)
theorem zw_535 : (Jvm.Cond.constant "java/lang/Integer" (267 : Nat) (252645135 : Int32)) ∈ zU := zU_i (i := 535) (by decide +kernel) (by decide +kernel)
theorem zw_536 : (Jvm.Cond.methodLink "BalanceRoom" (205 : Nat) ({ cls := "java/lang/Integer", name := "bitCount", desc := "(I)I" } : Jvm.MethodName)) ∈ zU := zU_i (i := 536) (by decide +kernel) (by decide +kernel)
theorem zw_537 : (Jvm.Cond.fieldLink "BalanceRoom" (211 : Nat) "BalanceRoom" "FACTORIALS" "[I") ∈ zU := zU_i (i := 537) (by decide +kernel) (by decide +kernel)
theorem zl_538 : (Jvm.Cond.laysStatic "BalanceRoom" "FACTORIALS" "[I") ∈ lw_tbl := List.mem_of_getElem? (i := 538) (by decide +kernel)
theorem zw_539 : (Jvm.Cond.methodLink "BalanceRoomLaw" (119 : Nat) ({ cls := "BalanceRoom", name := "lost", desc := "(IZZ)I" } : Jvm.MethodName)) ∈ zU := zU_i (i := 539) (by decide +kernel) (by decide +kernel)
theorem zw_540 : (Jvm.Cond.instanceMethod ({ cls := "BalanceRoom", name := "lost", desc := "(IZZ)I" } : Jvm.MethodName)) ∈ zU := zU_i (i := 540) (by decide +kernel) (by decide +kernel)
theorem zw_541 : (Jvm.Cond.selects "BalanceRoom" ({ cls := "BalanceRoom", name := "lost", desc := "(IZZ)I" } : Jvm.MethodName) ({ cls := "BalanceRoom", name := "lost", desc := "(IZZ)I" } : Jvm.MethodName)) ∈ zU := zU_i (i := 541) (by decide +kernel) (by decide +kernel)
set_option maxRecDepth 100000 in
theorem zw_542 : (Jvm.Cond.code ({ cls := "BalanceRoom", name := "lost", desc := "(IZZ)I" } : Jvm.MethodName) prog_1_method_26_code (10 : Nat) (Option.some Jvm.ClassFile.FieldType.int)) ∈ zU := zU_i (i := 542) (rfl) (by decide +kernel)
theorem zw_543 : (Jvm.Cond.methodLink "BalanceRoom" (214 : Nat) ({ cls := "BalanceRoom$Room", name := "unknowns", desc := "(Z)I" } : Jvm.MethodName)) ∈ zU := zU_i (i := 543) (by decide +kernel) (by decide +kernel)
theorem zw_544 : (Jvm.Cond.methodLink "BalanceRoomLaw" (123 : Nat) ({ cls := "BalanceRoom", name := "seed", desc := "(J)J" } : Jvm.MethodName)) ∈ zU := zU_i (i := 544) (by decide +kernel) (by decide +kernel)
theorem zw_545 : (Jvm.Cond.instanceMethod ({ cls := "BalanceRoom", name := "seed", desc := "(J)J" } : Jvm.MethodName)) ∈ zU := zU_i (i := 545) (by decide +kernel) (by decide +kernel)
theorem zw_546 : (Jvm.Cond.selects "BalanceRoom" ({ cls := "BalanceRoom", name := "seed", desc := "(J)J" } : Jvm.MethodName) ({ cls := "BalanceRoom", name := "seed", desc := "(J)J" } : Jvm.MethodName)) ∈ zU := zU_i (i := 546) (by decide +kernel) (by decide +kernel)
set_option maxRecDepth 100000 in
theorem zw_547 : (Jvm.Cond.code ({ cls := "BalanceRoom", name := "seed", desc := "(J)J" } : Jvm.MethodName) prog_1_method_27_code (5 : Nat) (Option.some Jvm.ClassFile.FieldType.long)) ∈ zU := zU_i (i := 547) (rfl) (by decide +kernel)
theorem zw_548 : (Jvm.Cond.methodLink "BalanceRoomLaw" (128 : Nat) ({ cls := "BalanceRoom", name := "drawn", desc := "(I)I" } : Jvm.MethodName)) ∈ zU := zU_i (i := 548) (by decide +kernel) (by decide +kernel)
theorem zw_549 : (Jvm.Cond.instanceMethod ({ cls := "BalanceRoom", name := "drawn", desc := "(I)I" } : Jvm.MethodName)) ∈ zU := zU_i (i := 549) (by decide +kernel) (by decide +kernel)
theorem zw_550 : (Jvm.Cond.selects "BalanceRoom" ({ cls := "BalanceRoom", name := "drawn", desc := "(I)I" } : Jvm.MethodName) ({ cls := "BalanceRoom", name := "drawn", desc := "(I)I" } : Jvm.MethodName)) ∈ zU := zU_i (i := 550) (by decide +kernel) (by decide +kernel)
set_option maxRecDepth 100000 in
theorem zw_551 : (Jvm.Cond.code ({ cls := "BalanceRoom", name := "drawn", desc := "(I)I" } : Jvm.MethodName) prog_1_method_28_code (5 : Nat) (Option.some Jvm.ClassFile.FieldType.int)) ∈ zU := zU_i (i := 551) (rfl) (by decide +kernel)
theorem zw_552 : (Jvm.Cond.constantLong "BalanceRoom" (218 : Nat) (6364136223846793005 : Int64)) ∈ zU := zU_i (i := 552) (by decide +kernel) (by decide +kernel)
theorem zw_553 : (Jvm.Cond.constantLong "BalanceRoom" (220 : Nat) (1442695040888963407 : Int64)) ∈ zU := zU_i (i := 553) (by decide +kernel) (by decide +kernel)
theorem zw_554 : (Jvm.Cond.methodLink "BalanceRoom" (222 : Nat) ({ cls := "BalanceRoom", name := "drawReadings", desc := "(I)V" } : Jvm.MethodName)) ∈ zU := zU_i (i := 554) (by decide +kernel) (by decide +kernel)
theorem zw_556 : (Jvm.Cond.instanceMethod ({ cls := "BalanceRoom", name := "drawReadings", desc := "(I)V" } : Jvm.MethodName)) ∈ zU := zU_i (i := 556) (by decide +kernel) (by decide +kernel)
set_option maxRecDepth 100000 in
theorem zw_557 : (Jvm.Cond.code ({ cls := "BalanceRoom", name := "drawReadings", desc := "(I)V" } : Jvm.MethodName) prog_1_method_36_code (4 : Nat) (Option.none : Option Jvm.ClassFile.FieldType)) ∈ zU := zU_i (i := 557) (rfl) (by decide +kernel)
theorem zw_558 : (Jvm.Cond.methodLink "BalanceRoomLaw" (132 : Nat) ({ cls := "BalanceRoom", name := "keep", desc := "(I)I" } : Jvm.MethodName)) ∈ zU := zU_i (i := 558) (by decide +kernel) (by decide +kernel)
theorem zw_559 : (Jvm.Cond.instanceMethod ({ cls := "BalanceRoom", name := "keep", desc := "(I)I" } : Jvm.MethodName)) ∈ zU := zU_i (i := 559) (by decide +kernel) (by decide +kernel)
theorem zw_560 : (Jvm.Cond.selects "BalanceRoom" ({ cls := "BalanceRoom", name := "keep", desc := "(I)I" } : Jvm.MethodName) ({ cls := "BalanceRoom", name := "keep", desc := "(I)I" } : Jvm.MethodName)) ∈ zU := zU_i (i := 560) (by decide +kernel) (by decide +kernel)
set_option maxRecDepth 100000 in
theorem zw_561 : (Jvm.Cond.code ({ cls := "BalanceRoom", name := "keep", desc := "(I)I" } : Jvm.MethodName) prog_1_method_29_code (2 : Nat) (Option.some Jvm.ClassFile.FieldType.int)) ∈ zU := zU_i (i := 561) (rfl) (by decide +kernel)
theorem zw_562 : (Jvm.Cond.methodLink "BalanceRoomLaw" (136 : Nat) ({ cls := "BalanceRoom", name := "again", desc := "(I)I" } : Jvm.MethodName)) ∈ zU := zU_i (i := 562) (by decide +kernel) (by decide +kernel)
theorem zw_563 : (Jvm.Cond.instanceMethod ({ cls := "BalanceRoom", name := "again", desc := "(I)I" } : Jvm.MethodName)) ∈ zU := zU_i (i := 563) (by decide +kernel) (by decide +kernel)
theorem zw_564 : (Jvm.Cond.selects "BalanceRoom" ({ cls := "BalanceRoom", name := "again", desc := "(I)I" } : Jvm.MethodName) ({ cls := "BalanceRoom", name := "again", desc := "(I)I" } : Jvm.MethodName)) ∈ zU := zU_i (i := 564) (by decide +kernel) (by decide +kernel)
set_option maxRecDepth 100000 in
theorem zw_565 : (Jvm.Cond.code ({ cls := "BalanceRoom", name := "again", desc := "(I)I" } : Jvm.MethodName) prog_1_method_30_code (2 : Nat) (Option.some Jvm.ClassFile.FieldType.int)) ∈ zU := zU_i (i := 565) (rfl) (by decide +kernel)
theorem zw_566 : (Jvm.Cond.methodLink "BalanceRoomLaw" (140 : Nat) ({ cls := "BalanceRoom", name := "count", desc := "(I)I" } : Jvm.MethodName)) ∈ zU := zU_i (i := 566) (by decide +kernel) (by decide +kernel)
theorem zw_567 : (Jvm.Cond.instanceMethod ({ cls := "BalanceRoom", name := "count", desc := "(I)I" } : Jvm.MethodName)) ∈ zU := zU_i (i := 567) (by decide +kernel) (by decide +kernel)
theorem zw_568 : (Jvm.Cond.selects "BalanceRoom" ({ cls := "BalanceRoom", name := "count", desc := "(I)I" } : Jvm.MethodName) ({ cls := "BalanceRoom", name := "count", desc := "(I)I" } : Jvm.MethodName)) ∈ zU := zU_i (i := 568) (by decide +kernel) (by decide +kernel)
set_option maxRecDepth 100000 in
theorem zw_569 : (Jvm.Cond.code ({ cls := "BalanceRoom", name := "count", desc := "(I)I" } : Jvm.MethodName) prog_1_method_31_code (2 : Nat) (Option.some Jvm.ClassFile.FieldType.int)) ∈ zU := zU_i (i := 569) (rfl) (by decide +kernel)
theorem zw_570 : (Jvm.Cond.classLink "BalanceRoomLaw" (10 : Nat) "BalanceRoomModel") ∈ zU := zU_i (i := 570) (by decide +kernel) (by decide +kernel)
theorem zw_571 : (Jvm.Cond.instantiable "BalanceRoomModel" (24 : Nat)) ∈ zU := zU_i (i := 571) (by decide +kernel) (by decide +kernel)
theorem zw_572 : (Jvm.Cond.methodLink "BalanceRoomLaw" (12 : Nat) ({ cls := "BalanceRoomModel", name := "<init>", desc := "()V" } : Jvm.MethodName)) ∈ zU := zU_i (i := 572) (by decide +kernel) (by decide +kernel)
theorem zw_573 : (Jvm.Cond.instanceMethod ({ cls := "BalanceRoomModel", name := "<init>", desc := "()V" } : Jvm.MethodName)) ∈ zU := zU_i (i := 573) (by decide +kernel) (by decide +kernel)
set_option maxRecDepth 100000 in
theorem zw_574 : (Jvm.Cond.code ({ cls := "BalanceRoomModel", name := "<init>", desc := "()V" } : Jvm.MethodName) prog_8_method_2_code (1 : Nat) (Option.none : Option Jvm.ClassFile.FieldType)) ∈ zU := zU_i (i := 574) (rfl) (by decide +kernel)
theorem zw_575 : (Jvm.Cond.methodLink "BalanceRoomModel" (7 : Nat) ({ cls := "java/lang/Object", name := "<init>", desc := "()V" } : Jvm.MethodName)) ∈ zU := zU_i (i := 575) (by decide +kernel) (by decide +kernel)
theorem zw_576 : (Jvm.Cond.fieldLink "BalanceRoomModel" (1 : Nat) "BalanceRoomModel" "thrown" "I") ∈ zU := zU_i (i := 576) (by decide +kernel) (by decide +kernel)
theorem zw_577 : (Jvm.Cond.fieldLink "BalanceRoomModel" (13 : Nat) "BalanceRoomModel" "text" "[I") ∈ zU := zU_i (i := 577) (by decide +kernel) (by decide +kernel)
theorem zw_578 : (Jvm.Cond.fieldLink "BalanceRoomModel" (67 : Nat) "BalanceRoomModel" "textSize" "I") ∈ zU := zU_i (i := 578) (by decide +kernel) (by decide +kernel)
theorem zw_579 : (Jvm.Cond.fieldLink "BalanceRoomModel" (70 : Nat) "BalanceRoomModel" "place" "I") ∈ zU := zU_i (i := 579) (by decide +kernel) (by decide +kernel)
theorem zw_580 : (Jvm.Cond.fieldLink "BalanceRoomModel" (17 : Nat) "BalanceRoomModel" "weights" "I") ∈ zU := zU_i (i := 580) (by decide +kernel) (by decide +kernel)
theorem zw_581 : (Jvm.Cond.fieldLink "BalanceRoomModel" (77 : Nat) "BalanceRoomModel" "readWeights" "I") ∈ zU := zU_i (i := 581) (by decide +kernel) (by decide +kernel)
theorem zw_582 : (Jvm.Cond.fieldLink "BalanceRoomModel" (20 : Nat) "BalanceRoomModel" "readPage" "[I") ∈ zU := zU_i (i := 582) (by decide +kernel) (by decide +kernel)
theorem zw_583 : (Jvm.Cond.fieldLink "BalanceRoomModel" (23 : Nat) "BalanceRoomModel" "page" "[I") ∈ zU := zU_i (i := 583) (by decide +kernel) (by decide +kernel)
theorem zw_584 : (Jvm.Cond.fieldLink "BalanceRoomModel" (26 : Nat) "BalanceRoomModel" "trial" "[I") ∈ zU := zU_i (i := 584) (by decide +kernel) (by decide +kernel)
theorem zw_585 : (Jvm.Cond.fieldLink "BalanceRoomModel" (29 : Nat) "BalanceRoomModel" "other" "[I") ∈ zU := zU_i (i := 585) (by decide +kernel) (by decide +kernel)
theorem zw_586 : (Jvm.Cond.fieldLink "BalanceRoomModel" (32 : Nat) "BalanceRoomModel" "book" "[I") ∈ zU := zU_i (i := 586) (by decide +kernel) (by decide +kernel)
theorem zw_587 : (Jvm.Cond.fieldLink "BalanceRoomModel" (99 : Nat) "BalanceRoomModel" "doings" "I") ∈ zU := zU_i (i := 587) (by decide +kernel) (by decide +kernel)
theorem zw_588 : (Jvm.Cond.fieldLink "BalanceRoomModel" (35 : Nat) "BalanceRoomModel" "kept" "[I") ∈ zU := zU_i (i := 588) (by decide +kernel) (by decide +kernel)
theorem zw_589 : (Jvm.Cond.fieldLink "BalanceRoomModel" (38 : Nat) "BalanceRoomModel" "isKept" "[Z") ∈ zU := zU_i (i := 589) (by decide +kernel) (by decide +kernel)
theorem zw_590 : (Jvm.Cond.fieldLink "BalanceRoomModel" (234 : Nat) "BalanceRoomModel" "seed" "J") ∈ zU := zU_i (i := 590) (by decide +kernel) (by decide +kernel)
theorem zw_591 : (Jvm.Cond.fieldLink "BalanceRoomModel" (58 : Nat) "BalanceRoomModel" "wide" "I") ∈ zU := zU_i (i := 591) (by decide +kernel) (by decide +kernel)
theorem zw_592 : (Jvm.Cond.fieldLink "BalanceRoomModel" (42 : Nat) "BalanceRoomModel" "gram" "[J") ∈ zU := zU_i (i := 592) (by decide +kernel) (by decide +kernel)
theorem zw_593 : (Jvm.Cond.fieldLink "BalanceRoomModel" (46 : Nat) "BalanceRoomModel" "right" "[J") ∈ zU := zU_i (i := 593) (by decide +kernel) (by decide +kernel)
theorem zw_594 : (Jvm.Cond.fieldLink "BalanceRoomModel" (132 : Nat) "BalanceRoomModel" "squaresOfAll" "J") ∈ zU := zU_i (i := 594) (by decide +kernel) (by decide +kernel)
theorem zw_595 : (Jvm.Cond.fieldLink "BalanceRoomModel" (49 : Nat) "BalanceRoomModel" "work" "[J") ∈ zU := zU_i (i := 595) (by decide +kernel) (by decide +kernel)
theorem zw_596 : (Jvm.Cond.fieldLink "BalanceRoomModel" (52 : Nat) "BalanceRoomModel" "chosen" "[I") ∈ zU := zU_i (i := 596) (by decide +kernel) (by decide +kernel)
theorem zw_597 : (Jvm.Cond.fieldLink "BalanceRoomModel" (55 : Nat) "BalanceRoomModel" "column" "[I") ∈ zU := zU_i (i := 597) (by decide +kernel) (by decide +kernel)
theorem zw_598 : (Jvm.Cond.fieldLink "BalanceRoomModel" (170 : Nat) "BalanceRoomModel" "up" "J") ∈ zU := zU_i (i := 598) (by decide +kernel) (by decide +kernel)
theorem zw_599 : (Jvm.Cond.fieldLink "BalanceRoomModel" (173 : Nat) "BalanceRoomModel" "low" "J") ∈ zU := zU_i (i := 599) (by decide +kernel) (by decide +kernel)
theorem zw_600 : (Jvm.Cond.lays "BalanceRoomModel" "BalanceRoomModel" "thrown" "I") ∈ zU := zU_i (i := 600) (by decide +kernel) (by decide +kernel)
theorem zw_602 : (Jvm.Cond.laysFinal "BalanceRoomModel" "BalanceRoomModel" "text" "[I") ∈ zU := zU_i (i := 602) (by decide +kernel) (by decide +kernel)
theorem zw_604 : (Jvm.Cond.lays "BalanceRoomModel" "BalanceRoomModel" "textSize" "I") ∈ zU := zU_i (i := 604) (by decide +kernel) (by decide +kernel)
theorem zw_606 : (Jvm.Cond.lays "BalanceRoomModel" "BalanceRoomModel" "place" "I") ∈ zU := zU_i (i := 606) (by decide +kernel) (by decide +kernel)
theorem zw_608 : (Jvm.Cond.lays "BalanceRoomModel" "BalanceRoomModel" "weights" "I") ∈ zU := zU_i (i := 608) (by decide +kernel) (by decide +kernel)
theorem zw_610 : (Jvm.Cond.lays "BalanceRoomModel" "BalanceRoomModel" "readWeights" "I") ∈ zU := zU_i (i := 610) (by decide +kernel) (by decide +kernel)
theorem zw_612 : (Jvm.Cond.laysFinal "BalanceRoomModel" "BalanceRoomModel" "readPage" "[I") ∈ zU := zU_i (i := 612) (by decide +kernel) (by decide +kernel)
theorem zw_614 : (Jvm.Cond.laysFinal "BalanceRoomModel" "BalanceRoomModel" "page" "[I") ∈ zU := zU_i (i := 614) (by decide +kernel) (by decide +kernel)
theorem zw_616 : (Jvm.Cond.laysFinal "BalanceRoomModel" "BalanceRoomModel" "trial" "[I") ∈ zU := zU_i (i := 616) (by decide +kernel) (by decide +kernel)
theorem zw_618 : (Jvm.Cond.laysFinal "BalanceRoomModel" "BalanceRoomModel" "other" "[I") ∈ zU := zU_i (i := 618) (by decide +kernel) (by decide +kernel)
theorem zw_620 : (Jvm.Cond.laysFinal "BalanceRoomModel" "BalanceRoomModel" "book" "[I") ∈ zU := zU_i (i := 620) (by decide +kernel) (by decide +kernel)
theorem zw_622 : (Jvm.Cond.lays "BalanceRoomModel" "BalanceRoomModel" "doings" "I") ∈ zU := zU_i (i := 622) (by decide +kernel) (by decide +kernel)
theorem zw_624 : (Jvm.Cond.laysFinal "BalanceRoomModel" "BalanceRoomModel" "kept" "[I") ∈ zU := zU_i (i := 624) (by decide +kernel) (by decide +kernel)
theorem zw_626 : (Jvm.Cond.laysFinal "BalanceRoomModel" "BalanceRoomModel" "isKept" "[Z") ∈ zU := zU_i (i := 626) (by decide +kernel) (by decide +kernel)
theorem zw_628 : (Jvm.Cond.lays "BalanceRoomModel" "BalanceRoomModel" "seed" "J") ∈ zU := zU_i (i := 628) (by decide +kernel) (by decide +kernel)
theorem zw_630 : (Jvm.Cond.lays "BalanceRoomModel" "BalanceRoomModel" "wide" "I") ∈ zU := zU_i (i := 630) (by decide +kernel) (by decide +kernel)
theorem zw_632 : (Jvm.Cond.laysFinal "BalanceRoomModel" "BalanceRoomModel" "gram" "[J") ∈ zU := zU_i (i := 632) (by decide +kernel) (by decide +kernel)
theorem zw_634 : (Jvm.Cond.laysFinal "BalanceRoomModel" "BalanceRoomModel" "right" "[J") ∈ zU := zU_i (i := 634) (by decide +kernel) (by decide +kernel)
theorem zw_636 : (Jvm.Cond.lays "BalanceRoomModel" "BalanceRoomModel" "squaresOfAll" "J") ∈ zU := zU_i (i := 636) (by decide +kernel) (by decide +kernel)
theorem zw_638 : (Jvm.Cond.laysFinal "BalanceRoomModel" "BalanceRoomModel" "work" "[J") ∈ zU := zU_i (i := 638) (by decide +kernel) (by decide +kernel)
theorem zw_640 : (Jvm.Cond.laysFinal "BalanceRoomModel" "BalanceRoomModel" "chosen" "[I") ∈ zU := zU_i (i := 640) (by decide +kernel) (by decide +kernel)
theorem zw_642 : (Jvm.Cond.laysFinal "BalanceRoomModel" "BalanceRoomModel" "column" "[I") ∈ zU := zU_i (i := 642) (by decide +kernel) (by decide +kernel)
theorem zw_644 : (Jvm.Cond.lays "BalanceRoomModel" "BalanceRoomModel" "up" "J") ∈ zU := zU_i (i := 644) (by decide +kernel) (by decide +kernel)
theorem zw_646 : (Jvm.Cond.lays "BalanceRoomModel" "BalanceRoomModel" "low" "J") ∈ zU := zU_i (i := 646) (by decide +kernel) (by decide +kernel)
theorem zw_649 : (Jvm.Cond.methodLink "BalanceRoomLaw" (17 : Nat) ({ cls := "BalanceRoomModel", name := "write", desc := "(I)I" } : Jvm.MethodName)) ∈ zU := zU_i (i := 649) (by decide +kernel) (by decide +kernel)
theorem zw_650 : (Jvm.Cond.instanceMethod ({ cls := "BalanceRoomModel", name := "write", desc := "(I)I" } : Jvm.MethodName)) ∈ zU := zU_i (i := 650) (by decide +kernel) (by decide +kernel)
theorem zw_651 : (Jvm.Cond.selects "BalanceRoomModel" ({ cls := "BalanceRoomModel", name := "write", desc := "(I)I" } : Jvm.MethodName) ({ cls := "BalanceRoomModel", name := "write", desc := "(I)I" } : Jvm.MethodName)) ∈ zU := zU_i (i := 651) (by decide +kernel) (by decide +kernel)
set_option maxRecDepth 100000 in
theorem zw_652 : (Jvm.Cond.code ({ cls := "BalanceRoomModel", name := "write", desc := "(I)I" } : Jvm.MethodName) prog_8_method_10_code (2 : Nat) (Option.some Jvm.ClassFile.FieldType.int)) ∈ zU := zU_i (i := 652) (rfl) (by decide +kernel)
theorem zw_653 : (Jvm.Cond.constantLong "BalanceRoomModel" (65 : Nat) (255 : Int64)) ∈ zU := zU_i (i := 653) (by decide +kernel) (by decide +kernel)
theorem zw_654 : (Jvm.Cond.methodLink "BalanceRoomModel" (61 : Nat) ({ cls := "BalanceRoomModel", name := "in", desc := "(JJJ)Z" } : Jvm.MethodName)) ∈ zU := zU_i (i := 654) (by decide +kernel) (by decide +kernel)
theorem zw_655 : (Jvm.Cond.static ({ cls := "BalanceRoomModel", name := "in", desc := "(JJJ)Z" } : Jvm.MethodName)) ∈ zU := zU_i (i := 655) (by decide +kernel) (by decide +kernel)
set_option maxRecDepth 100000 in
theorem zw_656 : (Jvm.Cond.code ({ cls := "BalanceRoomModel", name := "in", desc := "(JJJ)Z" } : Jvm.MethodName) prog_8_method_3_code (6 : Nat) (Option.some Jvm.ClassFile.FieldType.boolean)) ∈ zU := zU_i (i := 656) (rfl) (by decide +kernel)
theorem zw_657 : (Jvm.Cond.methodLink "BalanceRoomLaw" (22 : Nat) ({ cls := "BalanceRoomModel", name := "wipe", desc := "()I" } : Jvm.MethodName)) ∈ zU := zU_i (i := 657) (by decide +kernel) (by decide +kernel)
theorem zw_658 : (Jvm.Cond.instanceMethod ({ cls := "BalanceRoomModel", name := "wipe", desc := "()I" } : Jvm.MethodName)) ∈ zU := zU_i (i := 658) (by decide +kernel) (by decide +kernel)
theorem zw_659 : (Jvm.Cond.selects "BalanceRoomModel" ({ cls := "BalanceRoomModel", name := "wipe", desc := "()I" } : Jvm.MethodName) ({ cls := "BalanceRoomModel", name := "wipe", desc := "()I" } : Jvm.MethodName)) ∈ zU := zU_i (i := 659) (by decide +kernel) (by decide +kernel)
set_option maxRecDepth 100000 in
theorem zw_660 : (Jvm.Cond.code ({ cls := "BalanceRoomModel", name := "wipe", desc := "()I" } : Jvm.MethodName) prog_8_method_11_code (2 : Nat) (Option.some Jvm.ClassFile.FieldType.int)) ∈ zU := zU_i (i := 660) (rfl) (by decide +kernel)
theorem zw_661 : (Jvm.Cond.methodLink "BalanceRoomLaw" (26 : Nat) ({ cls := "BalanceRoomModel", name := "fault", desc := "()I" } : Jvm.MethodName)) ∈ zU := zU_i (i := 661) (by decide +kernel) (by decide +kernel)
theorem zw_662 : (Jvm.Cond.instanceMethod ({ cls := "BalanceRoomModel", name := "fault", desc := "()I" } : Jvm.MethodName)) ∈ zU := zU_i (i := 662) (by decide +kernel) (by decide +kernel)
theorem zw_663 : (Jvm.Cond.selects "BalanceRoomModel" ({ cls := "BalanceRoomModel", name := "fault", desc := "()I" } : Jvm.MethodName) ({ cls := "BalanceRoomModel", name := "fault", desc := "()I" } : Jvm.MethodName)) ∈ zU := zU_i (i := 663) (by decide +kernel) (by decide +kernel)
set_option maxRecDepth 100000 in
theorem zw_664 : (Jvm.Cond.code ({ cls := "BalanceRoomModel", name := "fault", desc := "()I" } : Jvm.MethodName) prog_8_method_17_code (1 : Nat) (Option.some Jvm.ClassFile.FieldType.int)) ∈ zU := zU_i (i := 664) (rfl) (by decide +kernel)
theorem zw_665 : (Jvm.Cond.methodLink "BalanceRoomModel" (91 : Nat) ({ cls := "BalanceRoomModel", name := "readRoom", desc := "()I" } : Jvm.MethodName)) ∈ zU := zU_i (i := 665) (by decide +kernel) (by decide +kernel)
theorem zw_667 : (Jvm.Cond.instanceMethod ({ cls := "BalanceRoomModel", name := "readRoom", desc := "()I" } : Jvm.MethodName)) ∈ zU := zU_i (i := 667) (by decide +kernel) (by decide +kernel)
set_option maxRecDepth 100000 in
theorem zw_668 : (Jvm.Cond.code ({ cls := "BalanceRoomModel", name := "readRoom", desc := "()I" } : Jvm.MethodName) prog_8_method_16_code (2 : Nat) (Option.some Jvm.ClassFile.FieldType.int)) ∈ zU := zU_i (i := 668) (rfl) (by decide +kernel)
theorem zw_669 : (Jvm.Cond.methodLink "BalanceRoomModel" (84 : Nat) ({ cls := "BalanceRoomModel", name := "readHead", desc := "()Z" } : Jvm.MethodName)) ∈ zU := zU_i (i := 669) (by decide +kernel) (by decide +kernel)
theorem zw_671 : (Jvm.Cond.instanceMethod ({ cls := "BalanceRoomModel", name := "readHead", desc := "()Z" } : Jvm.MethodName)) ∈ zU := zU_i (i := 671) (by decide +kernel) (by decide +kernel)
set_option maxRecDepth 100000 in
theorem zw_672 : (Jvm.Cond.code ({ cls := "BalanceRoomModel", name := "readHead", desc := "()Z" } : Jvm.MethodName) prog_8_method_14_code (3 : Nat) (Option.some Jvm.ClassFile.FieldType.boolean)) ∈ zU := zU_i (i := 672) (rfl) (by decide +kernel)
theorem zw_673 : (Jvm.Cond.methodLink "BalanceRoomModel" (73 : Nat) ({ cls := "BalanceRoomModel", name := "figure", desc := "(II)I" } : Jvm.MethodName)) ∈ zU := zU_i (i := 673) (by decide +kernel) (by decide +kernel)
theorem zw_675 : (Jvm.Cond.instanceMethod ({ cls := "BalanceRoomModel", name := "figure", desc := "(II)I" } : Jvm.MethodName)) ∈ zU := zU_i (i := 675) (by decide +kernel) (by decide +kernel)
set_option maxRecDepth 100000 in
theorem zw_676 : (Jvm.Cond.code ({ cls := "BalanceRoomModel", name := "figure", desc := "(II)I" } : Jvm.MethodName) prog_8_method_12_code (4 : Nat) (Option.some Jvm.ClassFile.FieldType.int)) ∈ zU := zU_i (i := 676) (rfl) (by decide +kernel)
theorem zw_677 : (Jvm.Cond.methodLink "BalanceRoomModel" (88 : Nat) ({ cls := "BalanceRoomModel", name := "readWeighing", desc := "()Z" } : Jvm.MethodName)) ∈ zU := zU_i (i := 677) (by decide +kernel) (by decide +kernel)
theorem zw_679 : (Jvm.Cond.instanceMethod ({ cls := "BalanceRoomModel", name := "readWeighing", desc := "()Z" } : Jvm.MethodName)) ∈ zU := zU_i (i := 679) (by decide +kernel) (by decide +kernel)
set_option maxRecDepth 100000 in
theorem zw_680 : (Jvm.Cond.code ({ cls := "BalanceRoomModel", name := "readWeighing", desc := "()Z" } : Jvm.MethodName) prog_8_method_15_code (6 : Nat) (Option.some Jvm.ClassFile.FieldType.boolean)) ∈ zU := zU_i (i := 680) (rfl) (by decide +kernel)
theorem zw_681 : (Jvm.Cond.methodLink "BalanceRoomModel" (80 : Nat) ({ cls := "BalanceRoomModel", name := "sign", desc := "(Z)I" } : Jvm.MethodName)) ∈ zU := zU_i (i := 681) (by decide +kernel) (by decide +kernel)
theorem zw_683 : (Jvm.Cond.instanceMethod ({ cls := "BalanceRoomModel", name := "sign", desc := "(Z)I" } : Jvm.MethodName)) ∈ zU := zU_i (i := 683) (by decide +kernel) (by decide +kernel)
set_option maxRecDepth 100000 in
theorem zw_684 : (Jvm.Cond.code ({ cls := "BalanceRoomModel", name := "sign", desc := "(Z)I" } : Jvm.MethodName) prog_8_method_13_code (4 : Nat) (Option.some Jvm.ClassFile.FieldType.int)) ∈ zU := zU_i (i := 684) (rfl) (by decide +kernel)
theorem zw_685 : (Jvm.Cond.methodLink "BalanceRoomLaw" (30 : Nat) ({ cls := "BalanceRoomModel", name := "room", desc := "()I" } : Jvm.MethodName)) ∈ zU := zU_i (i := 685) (by decide +kernel) (by decide +kernel)
theorem zw_686 : (Jvm.Cond.instanceMethod ({ cls := "BalanceRoomModel", name := "room", desc := "()I" } : Jvm.MethodName)) ∈ zU := zU_i (i := 686) (by decide +kernel) (by decide +kernel)
theorem zw_687 : (Jvm.Cond.selects "BalanceRoomModel" ({ cls := "BalanceRoomModel", name := "room", desc := "()I" } : Jvm.MethodName) ({ cls := "BalanceRoomModel", name := "room", desc := "()I" } : Jvm.MethodName)) ∈ zU := zU_i (i := 687) (by decide +kernel) (by decide +kernel)
set_option maxRecDepth 100000 in
theorem zw_688 : (Jvm.Cond.code ({ cls := "BalanceRoomModel", name := "room", desc := "()I" } : Jvm.MethodName) prog_8_method_18_code (1 : Nat) (Option.some Jvm.ClassFile.FieldType.int)) ∈ zU := zU_i (i := 688) (rfl) (by decide +kernel)
theorem zw_689 : (Jvm.Cond.methodLink "BalanceRoomModel" (95 : Nat) ({ cls := "BalanceRoomModel", name := "copy", desc := "([I[I)V" } : Jvm.MethodName)) ∈ zU := zU_i (i := 689) (by decide +kernel) (by decide +kernel)
theorem zw_690 : (Jvm.Cond.static ({ cls := "BalanceRoomModel", name := "copy", desc := "([I[I)V" } : Jvm.MethodName)) ∈ zU := zU_i (i := 690) (by decide +kernel) (by decide +kernel)
set_option maxRecDepth 100000 in
theorem zw_691 : (Jvm.Cond.code ({ cls := "BalanceRoomModel", name := "copy", desc := "([I[I)V" } : Jvm.MethodName) prog_8_method_7_code (3 : Nat) (Option.none : Option Jvm.ClassFile.FieldType)) ∈ zU := zU_i (i := 691) (rfl) (by decide +kernel)
theorem zw_692 : (Jvm.Cond.methodLink "BalanceRoomLaw" (34 : Nat) ({ cls := "BalanceRoomModel", name := "code", desc := "(I)I" } : Jvm.MethodName)) ∈ zU := zU_i (i := 692) (by decide +kernel) (by decide +kernel)
theorem zw_693 : (Jvm.Cond.instanceMethod ({ cls := "BalanceRoomModel", name := "code", desc := "(I)I" } : Jvm.MethodName)) ∈ zU := zU_i (i := 693) (by decide +kernel) (by decide +kernel)
theorem zw_694 : (Jvm.Cond.selects "BalanceRoomModel" ({ cls := "BalanceRoomModel", name := "code", desc := "(I)I" } : Jvm.MethodName) ({ cls := "BalanceRoomModel", name := "code", desc := "(I)I" } : Jvm.MethodName)) ∈ zU := zU_i (i := 694) (by decide +kernel) (by decide +kernel)
set_option maxRecDepth 100000 in
theorem zw_695 : (Jvm.Cond.code ({ cls := "BalanceRoomModel", name := "code", desc := "(I)I" } : Jvm.MethodName) prog_8_method_19_code (2 : Nat) (Option.some Jvm.ClassFile.FieldType.int)) ∈ zU := zU_i (i := 695) (rfl) (by decide +kernel)
theorem zw_696 : (Jvm.Cond.methodLink "BalanceRoomModel" (102 : Nat) ({ cls := "BalanceRoomModel", name := "noWeighing", desc := "(I)Z" } : Jvm.MethodName)) ∈ zU := zU_i (i := 696) (by decide +kernel) (by decide +kernel)
theorem zw_698 : (Jvm.Cond.instanceMethod ({ cls := "BalanceRoomModel", name := "noWeighing", desc := "(I)Z" } : Jvm.MethodName)) ∈ zU := zU_i (i := 698) (by decide +kernel) (by decide +kernel)
set_option maxRecDepth 100000 in
theorem zw_699 : (Jvm.Cond.code ({ cls := "BalanceRoomModel", name := "noWeighing", desc := "(I)Z" } : Jvm.MethodName) prog_8_method_8_code (2 : Nat) (Option.some Jvm.ClassFile.FieldType.boolean)) ∈ zU := zU_i (i := 699) (rfl) (by decide +kernel)
theorem zw_700 : (Jvm.Cond.methodLink "BalanceRoomLaw" (38 : Nat) ({ cls := "BalanceRoomModel", name := "reading", desc := "(I)I" } : Jvm.MethodName)) ∈ zU := zU_i (i := 700) (by decide +kernel) (by decide +kernel)
theorem zw_701 : (Jvm.Cond.instanceMethod ({ cls := "BalanceRoomModel", name := "reading", desc := "(I)I" } : Jvm.MethodName)) ∈ zU := zU_i (i := 701) (by decide +kernel) (by decide +kernel)
theorem zw_702 : (Jvm.Cond.selects "BalanceRoomModel" ({ cls := "BalanceRoomModel", name := "reading", desc := "(I)I" } : Jvm.MethodName) ({ cls := "BalanceRoomModel", name := "reading", desc := "(I)I" } : Jvm.MethodName)) ∈ zU := zU_i (i := 702) (by decide +kernel) (by decide +kernel)
set_option maxRecDepth 100000 in
theorem zw_703 : (Jvm.Cond.code ({ cls := "BalanceRoomModel", name := "reading", desc := "(I)I" } : Jvm.MethodName) prog_8_method_20_code (2 : Nat) (Option.some Jvm.ClassFile.FieldType.int)) ∈ zU := zU_i (i := 703) (rfl) (by decide +kernel)
theorem zw_704 : (Jvm.Cond.methodLink "BalanceRoomLaw" (43 : Nat) ({ cls := "BalanceRoomModel", name := "weigh", desc := "(II)I" } : Jvm.MethodName)) ∈ zU := zU_i (i := 704) (by decide +kernel) (by decide +kernel)
theorem zw_705 : (Jvm.Cond.instanceMethod ({ cls := "BalanceRoomModel", name := "weigh", desc := "(II)I" } : Jvm.MethodName)) ∈ zU := zU_i (i := 705) (by decide +kernel) (by decide +kernel)
theorem zw_706 : (Jvm.Cond.selects "BalanceRoomModel" ({ cls := "BalanceRoomModel", name := "weigh", desc := "(II)I" } : Jvm.MethodName) ({ cls := "BalanceRoomModel", name := "weigh", desc := "(II)I" } : Jvm.MethodName)) ∈ zU := zU_i (i := 706) (by decide +kernel) (by decide +kernel)
set_option maxRecDepth 100000 in
theorem zw_707 : (Jvm.Cond.code ({ cls := "BalanceRoomModel", name := "weigh", desc := "(II)I" } : Jvm.MethodName) prog_8_method_23_code (3 : Nat) (Option.some Jvm.ClassFile.FieldType.int)) ∈ zU := zU_i (i := 707) (rfl) (by decide +kernel)
theorem zw_708 : (Jvm.Cond.methodLink "BalanceRoomModel" (109 : Nat) ({ cls := "BalanceRoomModel", name := "isCode", desc := "(I)Z" } : Jvm.MethodName)) ∈ zU := zU_i (i := 708) (by decide +kernel) (by decide +kernel)
theorem zw_710 : (Jvm.Cond.instanceMethod ({ cls := "BalanceRoomModel", name := "isCode", desc := "(I)Z" } : Jvm.MethodName)) ∈ zU := zU_i (i := 710) (by decide +kernel) (by decide +kernel)
set_option maxRecDepth 100000 in
theorem zw_711 : (Jvm.Cond.code ({ cls := "BalanceRoomModel", name := "isCode", desc := "(I)Z" } : Jvm.MethodName) prog_8_method_22_code (4 : Nat) (Option.some Jvm.ClassFile.FieldType.boolean)) ∈ zU := zU_i (i := 711) (rfl) (by decide +kernel)
theorem zw_712 : (Jvm.Cond.methodLink "BalanceRoomModel" (106 : Nat) ({ cls := "BalanceRoomModel", name := "power", desc := "(II)I" } : Jvm.MethodName)) ∈ zU := zU_i (i := 712) (by decide +kernel) (by decide +kernel)
theorem zw_713 : (Jvm.Cond.static ({ cls := "BalanceRoomModel", name := "power", desc := "(II)I" } : Jvm.MethodName)) ∈ zU := zU_i (i := 713) (by decide +kernel) (by decide +kernel)
set_option maxRecDepth 100000 in
theorem zw_714 : (Jvm.Cond.code ({ cls := "BalanceRoomModel", name := "power", desc := "(II)I" } : Jvm.MethodName) prog_8_method_6_code (4 : Nat) (Option.some Jvm.ClassFile.FieldType.int)) ∈ zU := zU_i (i := 714) (rfl) (by decide +kernel)
theorem zw_715 : (Jvm.Cond.constantLong "BalanceRoomModel" (112 : Nat) (-999 : Int64)) ∈ zU := zU_i (i := 715) (by decide +kernel) (by decide +kernel)
theorem zw_716 : (Jvm.Cond.constantLong "BalanceRoomModel" (114 : Nat) (999 : Int64)) ∈ zU := zU_i (i := 716) (by decide +kernel) (by decide +kernel)
theorem zw_717 : (Jvm.Cond.methodLink "BalanceRoomModel" (116 : Nat) ({ cls := "BalanceRoomModel", name := "note", desc := "()V" } : Jvm.MethodName)) ∈ zU := zU_i (i := 717) (by decide +kernel) (by decide +kernel)
theorem zw_719 : (Jvm.Cond.instanceMethod ({ cls := "BalanceRoomModel", name := "note", desc := "()V" } : Jvm.MethodName)) ∈ zU := zU_i (i := 719) (by decide +kernel) (by decide +kernel)
set_option maxRecDepth 100000 in
theorem zw_720 : (Jvm.Cond.code ({ cls := "BalanceRoomModel", name := "note", desc := "()V" } : Jvm.MethodName) prog_8_method_21_code (2 : Nat) (Option.none : Option Jvm.ClassFile.FieldType)) ∈ zU := zU_i (i := 720) (rfl) (by decide +kernel)
theorem zw_721 : (Jvm.Cond.methodLink "BalanceRoomLaw" (47 : Nat) ({ cls := "BalanceRoomModel", name := "take", desc := "(I)I" } : Jvm.MethodName)) ∈ zU := zU_i (i := 721) (by decide +kernel) (by decide +kernel)
theorem zw_722 : (Jvm.Cond.instanceMethod ({ cls := "BalanceRoomModel", name := "take", desc := "(I)I" } : Jvm.MethodName)) ∈ zU := zU_i (i := 722) (by decide +kernel) (by decide +kernel)
theorem zw_723 : (Jvm.Cond.selects "BalanceRoomModel" ({ cls := "BalanceRoomModel", name := "take", desc := "(I)I" } : Jvm.MethodName) ({ cls := "BalanceRoomModel", name := "take", desc := "(I)I" } : Jvm.MethodName)) ∈ zU := zU_i (i := 723) (by decide +kernel) (by decide +kernel)
set_option maxRecDepth 100000 in
theorem zw_724 : (Jvm.Cond.code ({ cls := "BalanceRoomModel", name := "take", desc := "(I)I" } : Jvm.MethodName) prog_8_method_26_code (2 : Nat) (Option.some Jvm.ClassFile.FieldType.int)) ∈ zU := zU_i (i := 724) (rfl) (by decide +kernel)
theorem zw_725 : (Jvm.Cond.methodLink "BalanceRoomModel" (119 : Nat) ({ cls := "BalanceRoomModel", name := "takeOn", desc := "([II)V" } : Jvm.MethodName)) ∈ zU := zU_i (i := 725) (by decide +kernel) (by decide +kernel)
theorem zw_726 : (Jvm.Cond.static ({ cls := "BalanceRoomModel", name := "takeOn", desc := "([II)V" } : Jvm.MethodName)) ∈ zU := zU_i (i := 726) (by decide +kernel) (by decide +kernel)
set_option maxRecDepth 100000 in
theorem zw_727 : (Jvm.Cond.code ({ cls := "BalanceRoomModel", name := "takeOn", desc := "([II)V" } : Jvm.MethodName) prog_8_method_24_code (3 : Nat) (Option.none : Option Jvm.ClassFile.FieldType)) ∈ zU := zU_i (i := 727) (rfl) (by decide +kernel)
theorem zw_728 : (Jvm.Cond.methodLink "BalanceRoomLaw" (51 : Nat) ({ cls := "BalanceRoomModel", name := "swap", desc := "(II)I" } : Jvm.MethodName)) ∈ zU := zU_i (i := 728) (by decide +kernel) (by decide +kernel)
theorem zw_729 : (Jvm.Cond.instanceMethod ({ cls := "BalanceRoomModel", name := "swap", desc := "(II)I" } : Jvm.MethodName)) ∈ zU := zU_i (i := 729) (by decide +kernel) (by decide +kernel)
theorem zw_730 : (Jvm.Cond.selects "BalanceRoomModel" ({ cls := "BalanceRoomModel", name := "swap", desc := "(II)I" } : Jvm.MethodName) ({ cls := "BalanceRoomModel", name := "swap", desc := "(II)I" } : Jvm.MethodName)) ∈ zU := zU_i (i := 730) (by decide +kernel) (by decide +kernel)
set_option maxRecDepth 100000 in
theorem zw_731 : (Jvm.Cond.code ({ cls := "BalanceRoomModel", name := "swap", desc := "(II)I" } : Jvm.MethodName) prog_8_method_27_code (3 : Nat) (Option.some Jvm.ClassFile.FieldType.int)) ∈ zU := zU_i (i := 731) (rfl) (by decide +kernel)
theorem zw_732 : (Jvm.Cond.methodLink "BalanceRoomModel" (123 : Nat) ({ cls := "BalanceRoomModel", name := "swapOn", desc := "([III)V" } : Jvm.MethodName)) ∈ zU := zU_i (i := 732) (by decide +kernel) (by decide +kernel)
theorem zw_733 : (Jvm.Cond.static ({ cls := "BalanceRoomModel", name := "swapOn", desc := "([III)V" } : Jvm.MethodName)) ∈ zU := zU_i (i := 733) (by decide +kernel) (by decide +kernel)
set_option maxRecDepth 100000 in
theorem zw_734 : (Jvm.Cond.code ({ cls := "BalanceRoomModel", name := "swapOn", desc := "([III)V" } : Jvm.MethodName) prog_8_method_25_code (5 : Nat) (Option.none : Option Jvm.ClassFile.FieldType)) ∈ zU := zU_i (i := 734) (rfl) (by decide +kernel)
theorem zw_735 : (Jvm.Cond.methodLink "BalanceRoomLaw" (55 : Nat) ({ cls := "BalanceRoomModel", name := "read", desc := "(II)I" } : Jvm.MethodName)) ∈ zU := zU_i (i := 735) (by decide +kernel) (by decide +kernel)
theorem zw_736 : (Jvm.Cond.instanceMethod ({ cls := "BalanceRoomModel", name := "read", desc := "(II)I" } : Jvm.MethodName)) ∈ zU := zU_i (i := 736) (by decide +kernel) (by decide +kernel)
theorem zw_737 : (Jvm.Cond.selects "BalanceRoomModel" ({ cls := "BalanceRoomModel", name := "read", desc := "(II)I" } : Jvm.MethodName) ({ cls := "BalanceRoomModel", name := "read", desc := "(II)I" } : Jvm.MethodName)) ∈ zU := zU_i (i := 737) (by decide +kernel) (by decide +kernel)
set_option maxRecDepth 100000 in
theorem zw_738 : (Jvm.Cond.code ({ cls := "BalanceRoomModel", name := "read", desc := "(II)I" } : Jvm.MethodName) prog_8_method_28_code (4 : Nat) (Option.some Jvm.ClassFile.FieldType.int)) ∈ zU := zU_i (i := 738) (rfl) (by decide +kernel)
theorem zw_739 : (Jvm.Cond.methodLink "BalanceRoomLaw" (59 : Nat) ({ cls := "BalanceRoomModel", name := "master", desc := "(I)I" } : Jvm.MethodName)) ∈ zU := zU_i (i := 739) (by decide +kernel) (by decide +kernel)
theorem zw_740 : (Jvm.Cond.instanceMethod ({ cls := "BalanceRoomModel", name := "master", desc := "(I)I" } : Jvm.MethodName)) ∈ zU := zU_i (i := 740) (by decide +kernel) (by decide +kernel)
theorem zw_741 : (Jvm.Cond.selects "BalanceRoomModel" ({ cls := "BalanceRoomModel", name := "master", desc := "(I)I" } : Jvm.MethodName) ({ cls := "BalanceRoomModel", name := "master", desc := "(I)I" } : Jvm.MethodName)) ∈ zU := zU_i (i := 741) (by decide +kernel) (by decide +kernel)
set_option maxRecDepth 100000 in
theorem zw_742 : (Jvm.Cond.code ({ cls := "BalanceRoomModel", name := "master", desc := "(I)I" } : Jvm.MethodName) prog_8_method_29_code (3 : Nat) (Option.some Jvm.ClassFile.FieldType.int)) ∈ zU := zU_i (i := 742) (rfl) (by decide +kernel)
theorem zw_743 : (Jvm.Cond.constantLong "BalanceRoomModel" (127 : Nat) (99 : Int64)) ∈ zU := zU_i (i := 743) (by decide +kernel) (by decide +kernel)
theorem zw_744 : (Jvm.Cond.methodLink "BalanceRoomLaw" (63 : Nat) ({ cls := "BalanceRoomModel", name := "undo", desc := "()I" } : Jvm.MethodName)) ∈ zU := zU_i (i := 744) (by decide +kernel) (by decide +kernel)
theorem zw_745 : (Jvm.Cond.instanceMethod ({ cls := "BalanceRoomModel", name := "undo", desc := "()I" } : Jvm.MethodName)) ∈ zU := zU_i (i := 745) (by decide +kernel) (by decide +kernel)
theorem zw_746 : (Jvm.Cond.selects "BalanceRoomModel" ({ cls := "BalanceRoomModel", name := "undo", desc := "()I" } : Jvm.MethodName) ({ cls := "BalanceRoomModel", name := "undo", desc := "()I" } : Jvm.MethodName)) ∈ zU := zU_i (i := 746) (by decide +kernel) (by decide +kernel)
set_option maxRecDepth 100000 in
theorem zw_747 : (Jvm.Cond.code ({ cls := "BalanceRoomModel", name := "undo", desc := "()I" } : Jvm.MethodName) prog_8_method_30_code (2 : Nat) (Option.some Jvm.ClassFile.FieldType.int)) ∈ zU := zU_i (i := 747) (rfl) (by decide +kernel)
theorem zw_748 : (Jvm.Cond.methodLink "BalanceRoomLaw" (68 : Nat) ({ cls := "BalanceRoomModel", name := "rank", desc := "(Z)I" } : Jvm.MethodName)) ∈ zU := zU_i (i := 748) (by decide +kernel) (by decide +kernel)
theorem zw_749 : (Jvm.Cond.instanceMethod ({ cls := "BalanceRoomModel", name := "rank", desc := "(Z)I" } : Jvm.MethodName)) ∈ zU := zU_i (i := 749) (by decide +kernel) (by decide +kernel)
theorem zw_750 : (Jvm.Cond.selects "BalanceRoomModel" ({ cls := "BalanceRoomModel", name := "rank", desc := "(Z)I" } : Jvm.MethodName) ({ cls := "BalanceRoomModel", name := "rank", desc := "(Z)I" } : Jvm.MethodName)) ∈ zU := zU_i (i := 750) (by decide +kernel) (by decide +kernel)
set_option maxRecDepth 100000 in
theorem zw_751 : (Jvm.Cond.code ({ cls := "BalanceRoomModel", name := "rank", desc := "(Z)I" } : Jvm.MethodName) prog_8_method_45_code (2 : Nat) (Option.some Jvm.ClassFile.FieldType.int)) ∈ zU := zU_i (i := 751) (rfl) (by decide +kernel)
theorem zw_752 : (Jvm.Cond.methodLink "BalanceRoomModel" (180 : Nat) ({ cls := "BalanceRoomModel", name := "allOf", desc := "([I)I" } : Jvm.MethodName)) ∈ zU := zU_i (i := 752) (by decide +kernel) (by decide +kernel)
theorem zw_753 : (Jvm.Cond.static ({ cls := "BalanceRoomModel", name := "allOf", desc := "([I)I" } : Jvm.MethodName)) ∈ zU := zU_i (i := 753) (by decide +kernel) (by decide +kernel)
set_option maxRecDepth 100000 in
theorem zw_754 : (Jvm.Cond.code ({ cls := "BalanceRoomModel", name := "allOf", desc := "([I)I" } : Jvm.MethodName) prog_8_method_9_code (1 : Nat) (Option.some Jvm.ClassFile.FieldType.int)) ∈ zU := zU_i (i := 754) (rfl) (by decide +kernel)
theorem zw_755 : (Jvm.Cond.methodLink "BalanceRoomModel" (184 : Nat) ({ cls := "BalanceRoomModel", name := "rankOf", desc := "([IIZ)I" } : Jvm.MethodName)) ∈ zU := zU_i (i := 755) (by decide +kernel) (by decide +kernel)
theorem zw_757 : (Jvm.Cond.instanceMethod ({ cls := "BalanceRoomModel", name := "rankOf", desc := "([IIZ)I" } : Jvm.MethodName)) ∈ zU := zU_i (i := 757) (by decide +kernel) (by decide +kernel)
set_option maxRecDepth 100000 in
theorem zw_758 : (Jvm.Cond.code ({ cls := "BalanceRoomModel", name := "rankOf", desc := "([IIZ)I" } : Jvm.MethodName) prog_8_method_38_code (6 : Nat) (Option.some Jvm.ClassFile.FieldType.int)) ∈ zU := zU_i (i := 758) (rfl) (by decide +kernel)
theorem zw_759 : (Jvm.Cond.methodLink "BalanceRoomModel" (152 : Nat) ({ cls := "BalanceRoomModel", name := "layGram", desc := "([IIZ)V" } : Jvm.MethodName)) ∈ zU := zU_i (i := 759) (by decide +kernel) (by decide +kernel)
theorem zw_761 : (Jvm.Cond.instanceMethod ({ cls := "BalanceRoomModel", name := "layGram", desc := "([IIZ)V" } : Jvm.MethodName)) ∈ zU := zU_i (i := 761) (by decide +kernel) (by decide +kernel)
set_option maxRecDepth 100000 in
theorem zw_762 : (Jvm.Cond.code ({ cls := "BalanceRoomModel", name := "layGram", desc := "([IIZ)V" } : Jvm.MethodName) prog_8_method_34_code (9 : Nat) (Option.none : Option Jvm.ClassFile.FieldType)) ∈ zU := zU_i (i := 762) (rfl) (by decide +kernel)
theorem zw_763 : (Jvm.Cond.methodLink "BalanceRoomModel" (136 : Nat) ({ cls := "BalanceRoomModel", name := "has", desc := "(II)Z" } : Jvm.MethodName)) ∈ zU := zU_i (i := 763) (by decide +kernel) (by decide +kernel)
theorem zw_764 : (Jvm.Cond.static ({ cls := "BalanceRoomModel", name := "has", desc := "(II)Z" } : Jvm.MethodName)) ∈ zU := zU_i (i := 764) (by decide +kernel) (by decide +kernel)
set_option maxRecDepth 100000 in
theorem zw_765 : (Jvm.Cond.code ({ cls := "BalanceRoomModel", name := "has", desc := "(II)Z" } : Jvm.MethodName) prog_8_method_4_code (2 : Nat) (Option.some Jvm.ClassFile.FieldType.boolean)) ∈ zU := zU_i (i := 765) (rfl) (by decide +kernel)
theorem zw_766 : (Jvm.Cond.methodLink "BalanceRoomModel" (140 : Nat) ({ cls := "BalanceRoomModel", name := "layColumns", desc := "([IIZ)V" } : Jvm.MethodName)) ∈ zU := zU_i (i := 766) (by decide +kernel) (by decide +kernel)
theorem zw_768 : (Jvm.Cond.instanceMethod ({ cls := "BalanceRoomModel", name := "layColumns", desc := "([IIZ)V" } : Jvm.MethodName)) ∈ zU := zU_i (i := 768) (by decide +kernel) (by decide +kernel)
set_option maxRecDepth 100000 in
theorem zw_769 : (Jvm.Cond.code ({ cls := "BalanceRoomModel", name := "layColumns", desc := "([IIZ)V" } : Jvm.MethodName) prog_8_method_32_code (5 : Nat) (Option.none : Option Jvm.ClassFile.FieldType)) ∈ zU := zU_i (i := 769) (rfl) (by decide +kernel)
theorem zw_770 : (Jvm.Cond.methodLink "BalanceRoomModel" (129 : Nat) ({ cls := "BalanceRoomModel", name := "panOf", desc := "(II)I" } : Jvm.MethodName)) ∈ zU := zU_i (i := 770) (by decide +kernel) (by decide +kernel)
theorem zw_772 : (Jvm.Cond.instanceMethod ({ cls := "BalanceRoomModel", name := "panOf", desc := "(II)I" } : Jvm.MethodName)) ∈ zU := zU_i (i := 772) (by decide +kernel) (by decide +kernel)
set_option maxRecDepth 100000 in
theorem zw_773 : (Jvm.Cond.code ({ cls := "BalanceRoomModel", name := "panOf", desc := "(II)I" } : Jvm.MethodName) prog_8_method_31_code (4 : Nat) (Option.some Jvm.ClassFile.FieldType.int)) ∈ zU := zU_i (i := 773) (rfl) (by decide +kernel)
theorem zw_774 : (Jvm.Cond.methodLink "BalanceRoomModel" (144 : Nat) ({ cls := "BalanceRoomModel", name := "pureOf", desc := "([III)I" } : Jvm.MethodName)) ∈ zU := zU_i (i := 774) (by decide +kernel) (by decide +kernel)
theorem zw_775 : (Jvm.Cond.static ({ cls := "BalanceRoomModel", name := "pureOf", desc := "([III)I" } : Jvm.MethodName)) ∈ zU := zU_i (i := 775) (by decide +kernel) (by decide +kernel)
set_option maxRecDepth 100000 in
theorem zw_776 : (Jvm.Cond.code ({ cls := "BalanceRoomModel", name := "pureOf", desc := "([III)I" } : Jvm.MethodName) prog_8_method_33_code (3 : Nat) (Option.some Jvm.ClassFile.FieldType.int)) ∈ zU := zU_i (i := 776) (rfl) (by decide +kernel)
theorem zw_777 : (Jvm.Cond.methodLink "BalanceRoomModel" (155 : Nat) ({ cls := "BalanceRoomModel", name := "columns", desc := "()I" } : Jvm.MethodName)) ∈ zU := zU_i (i := 777) (by decide +kernel) (by decide +kernel)
theorem zw_779 : (Jvm.Cond.instanceMethod ({ cls := "BalanceRoomModel", name := "columns", desc := "()I" } : Jvm.MethodName)) ∈ zU := zU_i (i := 779) (by decide +kernel) (by decide +kernel)
set_option maxRecDepth 100000 in
theorem zw_780 : (Jvm.Cond.code ({ cls := "BalanceRoomModel", name := "columns", desc := "()I" } : Jvm.MethodName) prog_8_method_37_code (1 : Nat) (Option.some Jvm.ClassFile.FieldType.int)) ∈ zU := zU_i (i := 780) (rfl) (by decide +kernel)
theorem zw_781 : (Jvm.Cond.methodLink "BalanceRoomModel" (158 : Nat) ({ cls := "BalanceRoomModel", name := "ones", desc := "(I)I" } : Jvm.MethodName)) ∈ zU := zU_i (i := 781) (by decide +kernel) (by decide +kernel)
theorem zw_782 : (Jvm.Cond.static ({ cls := "BalanceRoomModel", name := "ones", desc := "(I)I" } : Jvm.MethodName)) ∈ zU := zU_i (i := 782) (by decide +kernel) (by decide +kernel)
set_option maxRecDepth 100000 in
theorem zw_783 : (Jvm.Cond.code ({ cls := "BalanceRoomModel", name := "ones", desc := "(I)I" } : Jvm.MethodName) prog_8_method_5_code (3 : Nat) (Option.some Jvm.ClassFile.FieldType.int)) ∈ zU := zU_i (i := 783) (rfl) (by decide +kernel)
theorem zw_784 : (Jvm.Cond.methodLink "BalanceRoomModel" (162 : Nat) ({ cls := "BalanceRoomModel", name := "minor", desc := "(II)J" } : Jvm.MethodName)) ∈ zU := zU_i (i := 784) (by decide +kernel) (by decide +kernel)
theorem zw_786 : (Jvm.Cond.instanceMethod ({ cls := "BalanceRoomModel", name := "minor", desc := "(II)J" } : Jvm.MethodName)) ∈ zU := zU_i (i := 786) (by decide +kernel) (by decide +kernel)
set_option maxRecDepth 100000 in
theorem zw_787 : (Jvm.Cond.code ({ cls := "BalanceRoomModel", name := "minor", desc := "(II)J" } : Jvm.MethodName) prog_8_method_36_code (6 : Nat) (Option.some Jvm.ClassFile.FieldType.long)) ∈ zU := zU_i (i := 787) (rfl) (by decide +kernel)
theorem zw_788 : (Jvm.Cond.methodLink "BalanceRoomModel" (148 : Nat) ({ cls := "BalanceRoomModel", name := "determinant", desc := "(I)J" } : Jvm.MethodName)) ∈ zU := zU_i (i := 788) (by decide +kernel) (by decide +kernel)
theorem zw_790 : (Jvm.Cond.instanceMethod ({ cls := "BalanceRoomModel", name := "determinant", desc := "(I)J" } : Jvm.MethodName)) ∈ zU := zU_i (i := 790) (by decide +kernel) (by decide +kernel)
set_option maxRecDepth 100000 in
theorem zw_791 : (Jvm.Cond.code ({ cls := "BalanceRoomModel", name := "determinant", desc := "(I)J" } : Jvm.MethodName) prog_8_method_35_code (11 : Nat) (Option.some Jvm.ClassFile.FieldType.long)) ∈ zU := zU_i (i := 791) (rfl) (by decide +kernel)
theorem zw_792 : (Jvm.Cond.methodLink "BalanceRoomLaw" (73 : Nat) ({ cls := "BalanceRoomModel", name := "value", desc := "(IZZ)J" } : Jvm.MethodName)) ∈ zU := zU_i (i := 792) (by decide +kernel) (by decide +kernel)
theorem zw_793 : (Jvm.Cond.instanceMethod ({ cls := "BalanceRoomModel", name := "value", desc := "(IZZ)J" } : Jvm.MethodName)) ∈ zU := zU_i (i := 793) (by decide +kernel) (by decide +kernel)
theorem zw_794 : (Jvm.Cond.selects "BalanceRoomModel" ({ cls := "BalanceRoomModel", name := "value", desc := "(IZZ)J" } : Jvm.MethodName) ({ cls := "BalanceRoomModel", name := "value", desc := "(IZZ)J" } : Jvm.MethodName)) ∈ zU := zU_i (i := 794) (by decide +kernel) (by decide +kernel)
set_option maxRecDepth 100000 in
theorem zw_795 : (Jvm.Cond.code ({ cls := "BalanceRoomModel", name := "value", desc := "(IZZ)J" } : Jvm.MethodName) prog_8_method_47_code (4 : Nat) (Option.some Jvm.ClassFile.FieldType.long)) ∈ zU := zU_i (i := 795) (rfl) (by decide +kernel)
theorem zw_796 : (Jvm.Cond.methodLink "BalanceRoomModel" (188 : Nat) ({ cls := "BalanceRoomModel", name := "noColumn", desc := "(IZ)Z" } : Jvm.MethodName)) ∈ zU := zU_i (i := 796) (by decide +kernel) (by decide +kernel)
theorem zw_798 : (Jvm.Cond.instanceMethod ({ cls := "BalanceRoomModel", name := "noColumn", desc := "(IZ)Z" } : Jvm.MethodName)) ∈ zU := zU_i (i := 798) (by decide +kernel) (by decide +kernel)
set_option maxRecDepth 100000 in
theorem zw_799 : (Jvm.Cond.code ({ cls := "BalanceRoomModel", name := "noColumn", desc := "(IZ)Z" } : Jvm.MethodName) prog_8_method_46_code (3 : Nat) (Option.some Jvm.ClassFile.FieldType.boolean)) ∈ zU := zU_i (i := 799) (rfl) (by decide +kernel)
theorem zw_800 : (Jvm.Cond.constantLong "BalanceRoomModel" (192 : Nat) (-1 : Int64)) ∈ zU := zU_i (i := 800) (by decide +kernel) (by decide +kernel)
theorem zw_801 : (Jvm.Cond.methodLink "BalanceRoomModel" (194 : Nat) ({ cls := "BalanceRoomModel", name := "isLaid", desc := "([IIZ)Z" } : Jvm.MethodName)) ∈ zU := zU_i (i := 801) (by decide +kernel) (by decide +kernel)
theorem zw_803 : (Jvm.Cond.instanceMethod ({ cls := "BalanceRoomModel", name := "isLaid", desc := "([IIZ)Z" } : Jvm.MethodName)) ∈ zU := zU_i (i := 803) (by decide +kernel) (by decide +kernel)
set_option maxRecDepth 100000 in
theorem zw_804 : (Jvm.Cond.code ({ cls := "BalanceRoomModel", name := "isLaid", desc := "([IIZ)Z" } : Jvm.MethodName) prog_8_method_39_code (4 : Nat) (Option.some Jvm.ClassFile.FieldType.boolean)) ∈ zU := zU_i (i := 804) (rfl) (by decide +kernel)
theorem zw_805 : (Jvm.Cond.constantLong "BalanceRoomModel" (198 : Nat) (-3 : Int64)) ∈ zU := zU_i (i := 805) (by decide +kernel) (by decide +kernel)
theorem zw_806 : (Jvm.Cond.methodLink "BalanceRoomModel" (176 : Nat) ({ cls := "BalanceRoomModel", name := "layFraction", desc := "(JJ)V" } : Jvm.MethodName)) ∈ zU := zU_i (i := 806) (by decide +kernel) (by decide +kernel)
theorem zw_808 : (Jvm.Cond.instanceMethod ({ cls := "BalanceRoomModel", name := "layFraction", desc := "(JJ)V" } : Jvm.MethodName)) ∈ zU := zU_i (i := 808) (by decide +kernel) (by decide +kernel)
set_option maxRecDepth 100000 in
theorem zw_809 : (Jvm.Cond.code ({ cls := "BalanceRoomModel", name := "layFraction", desc := "(JJ)V" } : Jvm.MethodName) prog_8_method_41_code (7 : Nat) (Option.none : Option Jvm.ClassFile.FieldType)) ∈ zU := zU_i (i := 809) (rfl) (by decide +kernel)
theorem zw_810 : (Jvm.Cond.methodLink "BalanceRoomModel" (166 : Nat) ({ cls := "BalanceRoomModel", name := "divisor", desc := "(JJ)J" } : Jvm.MethodName)) ∈ zU := zU_i (i := 810) (by decide +kernel) (by decide +kernel)
theorem zw_811 : (Jvm.Cond.static ({ cls := "BalanceRoomModel", name := "divisor", desc := "(JJ)J" } : Jvm.MethodName)) ∈ zU := zU_i (i := 811) (by decide +kernel) (by decide +kernel)
set_option maxRecDepth 100000 in
theorem zw_812 : (Jvm.Cond.code ({ cls := "BalanceRoomModel", name := "divisor", desc := "(JJ)J" } : Jvm.MethodName) prog_8_method_40_code (10 : Nat) (Option.some Jvm.ClassFile.FieldType.long)) ∈ zU := zU_i (i := 812) (rfl) (by decide +kernel)
theorem zw_813 : (Jvm.Cond.methodLink "BalanceRoomModel" (200 : Nat) ({ cls := "BalanceRoomModel", name := "told", desc := "(Z)J" } : Jvm.MethodName)) ∈ zU := zU_i (i := 813) (by decide +kernel) (by decide +kernel)
theorem zw_815 : (Jvm.Cond.instanceMethod ({ cls := "BalanceRoomModel", name := "told", desc := "(Z)J" } : Jvm.MethodName)) ∈ zU := zU_i (i := 815) (by decide +kernel) (by decide +kernel)
set_option maxRecDepth 100000 in
theorem zw_816 : (Jvm.Cond.code ({ cls := "BalanceRoomModel", name := "told", desc := "(Z)J" } : Jvm.MethodName) prog_8_method_42_code (2 : Nat) (Option.some Jvm.ClassFile.FieldType.long)) ∈ zU := zU_i (i := 816) (rfl) (by decide +kernel)
theorem zw_817 : (Jvm.Cond.methodLink "BalanceRoomLaw" (77 : Nat) ({ cls := "BalanceRoomModel", name := "spread", desc := "(IZZ)J" } : Jvm.MethodName)) ∈ zU := zU_i (i := 817) (by decide +kernel) (by decide +kernel)
theorem zw_818 : (Jvm.Cond.instanceMethod ({ cls := "BalanceRoomModel", name := "spread", desc := "(IZZ)J" } : Jvm.MethodName)) ∈ zU := zU_i (i := 818) (by decide +kernel) (by decide +kernel)
theorem zw_819 : (Jvm.Cond.selects "BalanceRoomModel" ({ cls := "BalanceRoomModel", name := "spread", desc := "(IZZ)J" } : Jvm.MethodName) ({ cls := "BalanceRoomModel", name := "spread", desc := "(IZZ)J" } : Jvm.MethodName)) ∈ zU := zU_i (i := 819) (by decide +kernel) (by decide +kernel)
set_option maxRecDepth 100000 in
theorem zw_820 : (Jvm.Cond.code ({ cls := "BalanceRoomModel", name := "spread", desc := "(IZZ)J" } : Jvm.MethodName) prog_8_method_48_code (4 : Nat) (Option.some Jvm.ClassFile.FieldType.long)) ∈ zU := zU_i (i := 820) (rfl) (by decide +kernel)
theorem zw_821 : (Jvm.Cond.methodLink "BalanceRoomLaw" (82 : Nat) ({ cls := "BalanceRoomModel", name := "total", desc := "(ZZ)J" } : Jvm.MethodName)) ∈ zU := zU_i (i := 821) (by decide +kernel) (by decide +kernel)
theorem zw_822 : (Jvm.Cond.instanceMethod ({ cls := "BalanceRoomModel", name := "total", desc := "(ZZ)J" } : Jvm.MethodName)) ∈ zU := zU_i (i := 822) (by decide +kernel) (by decide +kernel)
theorem zw_823 : (Jvm.Cond.selects "BalanceRoomModel" ({ cls := "BalanceRoomModel", name := "total", desc := "(ZZ)J" } : Jvm.MethodName) ({ cls := "BalanceRoomModel", name := "total", desc := "(ZZ)J" } : Jvm.MethodName)) ∈ zU := zU_i (i := 823) (by decide +kernel) (by decide +kernel)
set_option maxRecDepth 100000 in
theorem zw_824 : (Jvm.Cond.code ({ cls := "BalanceRoomModel", name := "total", desc := "(ZZ)J" } : Jvm.MethodName) prog_8_method_49_code (3 : Nat) (Option.some Jvm.ClassFile.FieldType.long)) ∈ zU := zU_i (i := 824) (rfl) (by decide +kernel)
theorem zw_825 : (Jvm.Cond.methodLink "BalanceRoomModel" (204 : Nat) ({ cls := "BalanceRoomModel", name := "layTotal", desc := "()V" } : Jvm.MethodName)) ∈ zU := zU_i (i := 825) (by decide +kernel) (by decide +kernel)
theorem zw_827 : (Jvm.Cond.instanceMethod ({ cls := "BalanceRoomModel", name := "layTotal", desc := "()V" } : Jvm.MethodName)) ∈ zU := zU_i (i := 827) (by decide +kernel) (by decide +kernel)
set_option maxRecDepth 100000 in
theorem zw_828 : (Jvm.Cond.code ({ cls := "BalanceRoomModel", name := "layTotal", desc := "()V" } : Jvm.MethodName) prog_8_method_43_code (4 : Nat) (Option.none : Option Jvm.ClassFile.FieldType)) ∈ zU := zU_i (i := 828) (rfl) (by decide +kernel)
theorem zw_829 : (Jvm.Cond.methodLink "BalanceRoomLaw" (86 : Nat) ({ cls := "BalanceRoomModel", name := "rest", desc := "(IZZ)J" } : Jvm.MethodName)) ∈ zU := zU_i (i := 829) (by decide +kernel) (by decide +kernel)
theorem zw_830 : (Jvm.Cond.instanceMethod ({ cls := "BalanceRoomModel", name := "rest", desc := "(IZZ)J" } : Jvm.MethodName)) ∈ zU := zU_i (i := 830) (by decide +kernel) (by decide +kernel)
theorem zw_831 : (Jvm.Cond.selects "BalanceRoomModel" ({ cls := "BalanceRoomModel", name := "rest", desc := "(IZZ)J" } : Jvm.MethodName) ({ cls := "BalanceRoomModel", name := "rest", desc := "(IZZ)J" } : Jvm.MethodName)) ∈ zU := zU_i (i := 831) (by decide +kernel) (by decide +kernel)
set_option maxRecDepth 100000 in
theorem zw_832 : (Jvm.Cond.code ({ cls := "BalanceRoomModel", name := "rest", desc := "(IZZ)J" } : Jvm.MethodName) prog_8_method_50_code (9 : Nat) (Option.some Jvm.ClassFile.FieldType.long)) ∈ zU := zU_i (i := 832) (rfl) (by decide +kernel)
theorem zw_833 : (Jvm.Cond.methodLink "BalanceRoomLaw" (90 : Nat) ({ cls := "BalanceRoomModel", name := "squares", desc := "(ZZ)J" } : Jvm.MethodName)) ∈ zU := zU_i (i := 833) (by decide +kernel) (by decide +kernel)
theorem zw_834 : (Jvm.Cond.instanceMethod ({ cls := "BalanceRoomModel", name := "squares", desc := "(ZZ)J" } : Jvm.MethodName)) ∈ zU := zU_i (i := 834) (by decide +kernel) (by decide +kernel)
theorem zw_835 : (Jvm.Cond.selects "BalanceRoomModel" ({ cls := "BalanceRoomModel", name := "squares", desc := "(ZZ)J" } : Jvm.MethodName) ({ cls := "BalanceRoomModel", name := "squares", desc := "(ZZ)J" } : Jvm.MethodName)) ∈ zU := zU_i (i := 835) (by decide +kernel) (by decide +kernel)
set_option maxRecDepth 100000 in
theorem zw_836 : (Jvm.Cond.code ({ cls := "BalanceRoomModel", name := "squares", desc := "(ZZ)J" } : Jvm.MethodName) prog_8_method_51_code (3 : Nat) (Option.some Jvm.ClassFile.FieldType.long)) ∈ zU := zU_i (i := 836) (rfl) (by decide +kernel)
theorem zw_837 : (Jvm.Cond.methodLink "BalanceRoomModel" (207 : Nat) ({ cls := "BalanceRoomModel", name := "laySquares", desc := "()V" } : Jvm.MethodName)) ∈ zU := zU_i (i := 837) (by decide +kernel) (by decide +kernel)
theorem zw_839 : (Jvm.Cond.instanceMethod ({ cls := "BalanceRoomModel", name := "laySquares", desc := "()V" } : Jvm.MethodName)) ∈ zU := zU_i (i := 839) (by decide +kernel) (by decide +kernel)
set_option maxRecDepth 100000 in
theorem zw_840 : (Jvm.Cond.code ({ cls := "BalanceRoomModel", name := "laySquares", desc := "()V" } : Jvm.MethodName) prog_8_method_44_code (6 : Nat) (Option.none : Option Jvm.ClassFile.FieldType)) ∈ zU := zU_i (i := 840) (rfl) (by decide +kernel)
theorem zw_841 : (Jvm.Cond.methodLink "BalanceRoomLaw" (94 : Nat) ({ cls := "BalanceRoomModel", name := "next", desc := "(Z)I" } : Jvm.MethodName)) ∈ zU := zU_i (i := 841) (by decide +kernel) (by decide +kernel)
theorem zw_842 : (Jvm.Cond.instanceMethod ({ cls := "BalanceRoomModel", name := "next", desc := "(Z)I" } : Jvm.MethodName)) ∈ zU := zU_i (i := 842) (by decide +kernel) (by decide +kernel)
theorem zw_843 : (Jvm.Cond.selects "BalanceRoomModel" ({ cls := "BalanceRoomModel", name := "next", desc := "(Z)I" } : Jvm.MethodName) ({ cls := "BalanceRoomModel", name := "next", desc := "(Z)I" } : Jvm.MethodName)) ∈ zU := zU_i (i := 843) (by decide +kernel) (by decide +kernel)
set_option maxRecDepth 100000 in
theorem zw_844 : (Jvm.Cond.code ({ cls := "BalanceRoomModel", name := "next", desc := "(Z)I" } : Jvm.MethodName) prog_8_method_52_code (10 : Nat) (Option.some Jvm.ClassFile.FieldType.int)) ∈ zU := zU_i (i := 844) (rfl) (by decide +kernel)
theorem zw_845 : (Jvm.Cond.methodLink "BalanceRoomLaw" (98 : Nat) ({ cls := "BalanceRoomModel", name := "better", desc := "()I" } : Jvm.MethodName)) ∈ zU := zU_i (i := 845) (by decide +kernel) (by decide +kernel)
theorem zw_846 : (Jvm.Cond.instanceMethod ({ cls := "BalanceRoomModel", name := "better", desc := "()I" } : Jvm.MethodName)) ∈ zU := zU_i (i := 846) (by decide +kernel) (by decide +kernel)
theorem zw_847 : (Jvm.Cond.selects "BalanceRoomModel" ({ cls := "BalanceRoomModel", name := "better", desc := "()I" } : Jvm.MethodName) ({ cls := "BalanceRoomModel", name := "better", desc := "()I" } : Jvm.MethodName)) ∈ zU := zU_i (i := 847) (by decide +kernel) (by decide +kernel)
set_option maxRecDepth 100000 in
theorem zw_848 : (Jvm.Cond.code ({ cls := "BalanceRoomModel", name := "better", desc := "()I" } : Jvm.MethodName) prog_8_method_53_code (8 : Nat) (Option.some Jvm.ClassFile.FieldType.int)) ∈ zU := zU_i (i := 848) (rfl) (by decide +kernel)
theorem zw_849 : (Jvm.Cond.methodLink "BalanceRoomLaw" (102 : Nat) ({ cls := "BalanceRoomModel", name := "doubtful", desc := "(Z)I" } : Jvm.MethodName)) ∈ zU := zU_i (i := 849) (by decide +kernel) (by decide +kernel)
theorem zw_850 : (Jvm.Cond.instanceMethod ({ cls := "BalanceRoomModel", name := "doubtful", desc := "(Z)I" } : Jvm.MethodName)) ∈ zU := zU_i (i := 850) (by decide +kernel) (by decide +kernel)
theorem zw_851 : (Jvm.Cond.selects "BalanceRoomModel" ({ cls := "BalanceRoomModel", name := "doubtful", desc := "(Z)I" } : Jvm.MethodName) ({ cls := "BalanceRoomModel", name := "doubtful", desc := "(Z)I" } : Jvm.MethodName)) ∈ zU := zU_i (i := 851) (by decide +kernel) (by decide +kernel)
set_option maxRecDepth 100000 in
theorem zw_852 : (Jvm.Cond.code ({ cls := "BalanceRoomModel", name := "doubtful", desc := "(Z)I" } : Jvm.MethodName) prog_8_method_55_code (2 : Nat) (Option.some Jvm.ClassFile.FieldType.int)) ∈ zU := zU_i (i := 852) (rfl) (by decide +kernel)
theorem zw_853 : (Jvm.Cond.methodLink "BalanceRoomModel" (210 : Nat) ({ cls := "BalanceRoomModel", name := "doubtfulOf", desc := "([IZ)I" } : Jvm.MethodName)) ∈ zU := zU_i (i := 853) (by decide +kernel) (by decide +kernel)
theorem zw_855 : (Jvm.Cond.instanceMethod ({ cls := "BalanceRoomModel", name := "doubtfulOf", desc := "([IZ)I" } : Jvm.MethodName)) ∈ zU := zU_i (i := 855) (by decide +kernel) (by decide +kernel)
set_option maxRecDepth 100000 in
theorem zw_856 : (Jvm.Cond.code ({ cls := "BalanceRoomModel", name := "doubtfulOf", desc := "([IZ)I" } : Jvm.MethodName) prog_8_method_54_code (9 : Nat) (Option.some Jvm.ClassFile.FieldType.int)) ∈ zU := zU_i (i := 856) (rfl) (by decide +kernel)
theorem zw_857 : (Jvm.Cond.methodLink "BalanceRoomLaw" (106 : Nat) ({ cls := "BalanceRoomModel", name := "wrong", desc := "(Z)I" } : Jvm.MethodName)) ∈ zU := zU_i (i := 857) (by decide +kernel) (by decide +kernel)
theorem zw_858 : (Jvm.Cond.instanceMethod ({ cls := "BalanceRoomModel", name := "wrong", desc := "(Z)I" } : Jvm.MethodName)) ∈ zU := zU_i (i := 858) (by decide +kernel) (by decide +kernel)
theorem zw_859 : (Jvm.Cond.selects "BalanceRoomModel" ({ cls := "BalanceRoomModel", name := "wrong", desc := "(Z)I" } : Jvm.MethodName) ({ cls := "BalanceRoomModel", name := "wrong", desc := "(Z)I" } : Jvm.MethodName)) ∈ zU := zU_i (i := 859) (by decide +kernel) (by decide +kernel)
set_option maxRecDepth 100000 in
theorem zw_860 : (Jvm.Cond.code ({ cls := "BalanceRoomModel", name := "wrong", desc := "(Z)I" } : Jvm.MethodName) prog_8_method_56_code (4 : Nat) (Option.some Jvm.ClassFile.FieldType.int)) ∈ zU := zU_i (i := 860) (rfl) (by decide +kernel)
theorem zw_861 : (Jvm.Cond.methodLink "BalanceRoomLaw" (113 : Nat) ({ cls := "BalanceRoomModel", name := "judge", desc := "(IJ)I" } : Jvm.MethodName)) ∈ zU := zU_i (i := 861) (by decide +kernel) (by decide +kernel)
theorem zw_862 : (Jvm.Cond.instanceMethod ({ cls := "BalanceRoomModel", name := "judge", desc := "(IJ)I" } : Jvm.MethodName)) ∈ zU := zU_i (i := 862) (by decide +kernel) (by decide +kernel)
theorem zw_863 : (Jvm.Cond.selects "BalanceRoomModel" ({ cls := "BalanceRoomModel", name := "judge", desc := "(IJ)I" } : Jvm.MethodName) ({ cls := "BalanceRoomModel", name := "judge", desc := "(IJ)I" } : Jvm.MethodName)) ∈ zU := zU_i (i := 863) (by decide +kernel) (by decide +kernel)
set_option maxRecDepth 100000 in
theorem zw_864 : (Jvm.Cond.code ({ cls := "BalanceRoomModel", name := "judge", desc := "(IJ)I" } : Jvm.MethodName) prog_8_method_60_code (6 : Nat) (Option.some Jvm.ClassFile.FieldType.int)) ∈ zU := zU_i (i := 864) (rfl) (by decide +kernel)
theorem zw_865 : (Jvm.Cond.constantLong "BalanceRoomModel" (217 : Nat) (4 : Int64)) ∈ zU := zU_i (i := 865) (by decide +kernel) (by decide +kernel)
theorem zw_866 : (Jvm.Cond.constantLong "BalanceRoomModel" (219 : Nat) (10000 : Int64)) ∈ zU := zU_i (i := 866) (by decide +kernel) (by decide +kernel)
theorem zw_867 : (Jvm.Cond.methodLink "BalanceRoomModel" (221 : Nat) ({ cls := "BalanceRoomModel", name := "longPower", desc := "(JI)J" } : Jvm.MethodName)) ∈ zU := zU_i (i := 867) (by decide +kernel) (by decide +kernel)
theorem zw_868 : (Jvm.Cond.static ({ cls := "BalanceRoomModel", name := "longPower", desc := "(JI)J" } : Jvm.MethodName)) ∈ zU := zU_i (i := 868) (by decide +kernel) (by decide +kernel)
set_option maxRecDepth 100000 in
theorem zw_869 : (Jvm.Cond.code ({ cls := "BalanceRoomModel", name := "longPower", desc := "(JI)J" } : Jvm.MethodName) prog_8_method_59_code (6 : Nat) (Option.some Jvm.ClassFile.FieldType.long)) ∈ zU := zU_i (i := 869) (rfl) (by decide +kernel)
theorem zw_870 : (Jvm.Cond.methodLink "BalanceRoomModel" (225 : Nat) ({ cls := "BalanceRoomModel", name := "does", desc := "(III)Z" } : Jvm.MethodName)) ∈ zU := zU_i (i := 870) (by decide +kernel) (by decide +kernel)
theorem zw_872 : (Jvm.Cond.instanceMethod ({ cls := "BalanceRoomModel", name := "does", desc := "(III)Z" } : Jvm.MethodName)) ∈ zU := zU_i (i := 872) (by decide +kernel) (by decide +kernel)
set_option maxRecDepth 100000 in
theorem zw_873 : (Jvm.Cond.code ({ cls := "BalanceRoomModel", name := "does", desc := "(III)Z" } : Jvm.MethodName) prog_8_method_58_code (5 : Nat) (Option.some Jvm.ClassFile.FieldType.boolean)) ∈ zU := zU_i (i := 873) (rfl) (by decide +kernel)
theorem zw_874 : (Jvm.Cond.methodLink "BalanceRoomModel" (214 : Nat) ({ cls := "BalanceRoomModel", name := "isWorth", desc := "(II)Z" } : Jvm.MethodName)) ∈ zU := zU_i (i := 874) (by decide +kernel) (by decide +kernel)
theorem zw_876 : (Jvm.Cond.instanceMethod ({ cls := "BalanceRoomModel", name := "isWorth", desc := "(II)Z" } : Jvm.MethodName)) ∈ zU := zU_i (i := 876) (by decide +kernel) (by decide +kernel)
set_option maxRecDepth 100000 in
theorem zw_877 : (Jvm.Cond.code ({ cls := "BalanceRoomModel", name := "isWorth", desc := "(II)Z" } : Jvm.MethodName) prog_8_method_57_code (3 : Nat) (Option.some Jvm.ClassFile.FieldType.boolean)) ∈ zU := zU_i (i := 877) (rfl) (by decide +kernel)
theorem zw_878 : (Jvm.Cond.methodLink "BalanceRoomLaw" (118 : Nat) ({ cls := "BalanceRoomModel", name := "share", desc := "(IZZ)I" } : Jvm.MethodName)) ∈ zU := zU_i (i := 878) (by decide +kernel) (by decide +kernel)
theorem zw_879 : (Jvm.Cond.instanceMethod ({ cls := "BalanceRoomModel", name := "share", desc := "(IZZ)I" } : Jvm.MethodName)) ∈ zU := zU_i (i := 879) (by decide +kernel) (by decide +kernel)
theorem zw_880 : (Jvm.Cond.selects "BalanceRoomModel" ({ cls := "BalanceRoomModel", name := "share", desc := "(IZZ)I" } : Jvm.MethodName) ({ cls := "BalanceRoomModel", name := "share", desc := "(IZZ)I" } : Jvm.MethodName)) ∈ zU := zU_i (i := 880) (by decide +kernel) (by decide +kernel)
set_option maxRecDepth 100000 in
theorem zw_881 : (Jvm.Cond.code ({ cls := "BalanceRoomModel", name := "share", desc := "(IZZ)I" } : Jvm.MethodName) prog_8_method_62_code (10 : Nat) (Option.some Jvm.ClassFile.FieldType.int)) ∈ zU := zU_i (i := 881) (rfl) (by decide +kernel)
theorem zw_882 : (Jvm.Cond.methodLink "BalanceRoomModel" (229 : Nat) ({ cls := "BalanceRoomModel", name := "factorial", desc := "(I)I" } : Jvm.MethodName)) ∈ zU := zU_i (i := 882) (by decide +kernel) (by decide +kernel)
theorem zw_883 : (Jvm.Cond.static ({ cls := "BalanceRoomModel", name := "factorial", desc := "(I)I" } : Jvm.MethodName)) ∈ zU := zU_i (i := 883) (by decide +kernel) (by decide +kernel)
set_option maxRecDepth 100000 in
theorem zw_884 : (Jvm.Cond.code ({ cls := "BalanceRoomModel", name := "factorial", desc := "(I)I" } : Jvm.MethodName) prog_8_method_61_code (3 : Nat) (Option.some Jvm.ClassFile.FieldType.int)) ∈ zU := zU_i (i := 884) (rfl) (by decide +kernel)
theorem zw_885 : (Jvm.Cond.methodLink "BalanceRoomLaw" (122 : Nat) ({ cls := "BalanceRoomModel", name := "lost", desc := "(IZZ)I" } : Jvm.MethodName)) ∈ zU := zU_i (i := 885) (by decide +kernel) (by decide +kernel)
theorem zw_886 : (Jvm.Cond.instanceMethod ({ cls := "BalanceRoomModel", name := "lost", desc := "(IZZ)I" } : Jvm.MethodName)) ∈ zU := zU_i (i := 886) (by decide +kernel) (by decide +kernel)
theorem zw_887 : (Jvm.Cond.selects "BalanceRoomModel" ({ cls := "BalanceRoomModel", name := "lost", desc := "(IZZ)I" } : Jvm.MethodName) ({ cls := "BalanceRoomModel", name := "lost", desc := "(IZZ)I" } : Jvm.MethodName)) ∈ zU := zU_i (i := 887) (by decide +kernel) (by decide +kernel)
set_option maxRecDepth 100000 in
theorem zw_888 : (Jvm.Cond.code ({ cls := "BalanceRoomModel", name := "lost", desc := "(IZZ)I" } : Jvm.MethodName) prog_8_method_63_code (9 : Nat) (Option.some Jvm.ClassFile.FieldType.int)) ∈ zU := zU_i (i := 888) (rfl) (by decide +kernel)
theorem zw_889 : (Jvm.Cond.constantLong "BalanceRoomModel" (232 : Nat) (10 : Int64)) ∈ zU := zU_i (i := 889) (by decide +kernel) (by decide +kernel)
theorem zw_890 : (Jvm.Cond.methodLink "BalanceRoomLaw" (127 : Nat) ({ cls := "BalanceRoomModel", name := "seed", desc := "(J)J" } : Jvm.MethodName)) ∈ zU := zU_i (i := 890) (by decide +kernel) (by decide +kernel)
theorem zw_891 : (Jvm.Cond.instanceMethod ({ cls := "BalanceRoomModel", name := "seed", desc := "(J)J" } : Jvm.MethodName)) ∈ zU := zU_i (i := 891) (by decide +kernel) (by decide +kernel)
theorem zw_892 : (Jvm.Cond.selects "BalanceRoomModel" ({ cls := "BalanceRoomModel", name := "seed", desc := "(J)J" } : Jvm.MethodName) ({ cls := "BalanceRoomModel", name := "seed", desc := "(J)J" } : Jvm.MethodName)) ∈ zU := zU_i (i := 892) (by decide +kernel) (by decide +kernel)
set_option maxRecDepth 100000 in
theorem zw_893 : (Jvm.Cond.code ({ cls := "BalanceRoomModel", name := "seed", desc := "(J)J" } : Jvm.MethodName) prog_8_method_64_code (5 : Nat) (Option.some Jvm.ClassFile.FieldType.long)) ∈ zU := zU_i (i := 893) (rfl) (by decide +kernel)
theorem zw_894 : (Jvm.Cond.methodLink "BalanceRoomLaw" (131 : Nat) ({ cls := "BalanceRoomModel", name := "drawn", desc := "(I)I" } : Jvm.MethodName)) ∈ zU := zU_i (i := 894) (by decide +kernel) (by decide +kernel)
theorem zw_895 : (Jvm.Cond.instanceMethod ({ cls := "BalanceRoomModel", name := "drawn", desc := "(I)I" } : Jvm.MethodName)) ∈ zU := zU_i (i := 895) (by decide +kernel) (by decide +kernel)
theorem zw_896 : (Jvm.Cond.selects "BalanceRoomModel" ({ cls := "BalanceRoomModel", name := "drawn", desc := "(I)I" } : Jvm.MethodName) ({ cls := "BalanceRoomModel", name := "drawn", desc := "(I)I" } : Jvm.MethodName)) ∈ zU := zU_i (i := 896) (by decide +kernel) (by decide +kernel)
set_option maxRecDepth 100000 in
theorem zw_897 : (Jvm.Cond.code ({ cls := "BalanceRoomModel", name := "drawn", desc := "(I)I" } : Jvm.MethodName) prog_8_method_65_code (8 : Nat) (Option.some Jvm.ClassFile.FieldType.int)) ∈ zU := zU_i (i := 897) (rfl) (by decide +kernel)
theorem zw_898 : (Jvm.Cond.constantLong "BalanceRoomModel" (237 : Nat) (20 : Int64)) ∈ zU := zU_i (i := 898) (by decide +kernel) (by decide +kernel)
theorem zw_899 : (Jvm.Cond.constantLong "BalanceRoomModel" (239 : Nat) (6364136223846793005 : Int64)) ∈ zU := zU_i (i := 899) (by decide +kernel) (by decide +kernel)
theorem zw_900 : (Jvm.Cond.constantLong "BalanceRoomModel" (241 : Nat) (1442695040888963407 : Int64)) ∈ zU := zU_i (i := 900) (by decide +kernel) (by decide +kernel)
theorem zw_901 : (Jvm.Cond.methodLink "BalanceRoomLaw" (135 : Nat) ({ cls := "BalanceRoomModel", name := "keep", desc := "(I)I" } : Jvm.MethodName)) ∈ zU := zU_i (i := 901) (by decide +kernel) (by decide +kernel)
theorem zw_902 : (Jvm.Cond.instanceMethod ({ cls := "BalanceRoomModel", name := "keep", desc := "(I)I" } : Jvm.MethodName)) ∈ zU := zU_i (i := 902) (by decide +kernel) (by decide +kernel)
theorem zw_903 : (Jvm.Cond.selects "BalanceRoomModel" ({ cls := "BalanceRoomModel", name := "keep", desc := "(I)I" } : Jvm.MethodName) ({ cls := "BalanceRoomModel", name := "keep", desc := "(I)I" } : Jvm.MethodName)) ∈ zU := zU_i (i := 903) (by decide +kernel) (by decide +kernel)
set_option maxRecDepth 100000 in
theorem zw_904 : (Jvm.Cond.code ({ cls := "BalanceRoomModel", name := "keep", desc := "(I)I" } : Jvm.MethodName) prog_8_method_66_code (3 : Nat) (Option.some Jvm.ClassFile.FieldType.int)) ∈ zU := zU_i (i := 904) (rfl) (by decide +kernel)
theorem zw_905 : (Jvm.Cond.methodLink "BalanceRoomLaw" (139 : Nat) ({ cls := "BalanceRoomModel", name := "again", desc := "(I)I" } : Jvm.MethodName)) ∈ zU := zU_i (i := 905) (by decide +kernel) (by decide +kernel)
theorem zw_906 : (Jvm.Cond.instanceMethod ({ cls := "BalanceRoomModel", name := "again", desc := "(I)I" } : Jvm.MethodName)) ∈ zU := zU_i (i := 906) (by decide +kernel) (by decide +kernel)
theorem zw_907 : (Jvm.Cond.selects "BalanceRoomModel" ({ cls := "BalanceRoomModel", name := "again", desc := "(I)I" } : Jvm.MethodName) ({ cls := "BalanceRoomModel", name := "again", desc := "(I)I" } : Jvm.MethodName)) ∈ zU := zU_i (i := 907) (by decide +kernel) (by decide +kernel)
set_option maxRecDepth 100000 in
theorem zw_908 : (Jvm.Cond.code ({ cls := "BalanceRoomModel", name := "again", desc := "(I)I" } : Jvm.MethodName) prog_8_method_67_code (3 : Nat) (Option.some Jvm.ClassFile.FieldType.int)) ∈ zU := zU_i (i := 908) (rfl) (by decide +kernel)
theorem zw_909 : (Jvm.Cond.methodLink "BalanceRoomLaw" (143 : Nat) ({ cls := "BalanceRoomModel", name := "count", desc := "(I)I" } : Jvm.MethodName)) ∈ zU := zU_i (i := 909) (by decide +kernel) (by decide +kernel)
theorem zw_910 : (Jvm.Cond.instanceMethod ({ cls := "BalanceRoomModel", name := "count", desc := "(I)I" } : Jvm.MethodName)) ∈ zU := zU_i (i := 910) (by decide +kernel) (by decide +kernel)
theorem zw_911 : (Jvm.Cond.selects "BalanceRoomModel" ({ cls := "BalanceRoomModel", name := "count", desc := "(I)I" } : Jvm.MethodName) ({ cls := "BalanceRoomModel", name := "count", desc := "(I)I" } : Jvm.MethodName)) ∈ zU := zU_i (i := 911) (by decide +kernel) (by decide +kernel)
set_option maxRecDepth 100000 in
theorem zw_912 : (Jvm.Cond.code ({ cls := "BalanceRoomModel", name := "count", desc := "(I)I" } : Jvm.MethodName) prog_8_method_68_code (2 : Nat) (Option.some Jvm.ClassFile.FieldType.int)) ∈ zU := zU_i (i := 912) (rfl) (by decide +kernel)
theorem zw_913 : (Jvm.Cond.constantLong "BalanceRoomLaw" (107 : Nat) (4294967295 : Int64)) ∈ zU := zU_i (i := 913) (by decide +kernel) (by decide +kernel)
theorem zin_X0 : ∀ w ∈ u_ws RX0 TX0 3, w ∈ zU := by decide +kernel
theorem zin_X1 : ∀ w ∈ u_ws RX1 TX1 7, w ∈ zU := by decide +kernel
theorem zin_X2 : ∀ w ∈ u_ws RX2 TX2 3, w ∈ zU := by decide +kernel
theorem zin_X3 : ∀ w ∈ u_ws RX3 TX3 5, w ∈ zU := by decide +kernel
theorem zin_X4 : ∀ w ∈ u_ws RX4 TX4 2, w ∈ zU := by decide +kernel
theorem zin_X5 : ∀ w ∈ u_ws RX5 TX5 9, w ∈ zU := by decide +kernel
theorem zin_X6 : ∀ w ∈ u_ws RX6 TX6 24, w ∈ zU := by decide +kernel
end
section
theorem zcp_nat : Cond.native arraycopyName ∈ zU := zw_308
theorem zcp_st : Cond.static arraycopyName ∈ zU := zw_307
theorem zcp_in : Cond.initialized "java/lang/System" ∈ zU := zw_47
abbrev zM : Type := (Nat → Nat → Int32) × (Nat → Nat → Int64)
abbrev zE : Type := Launch × va_G × (Nat → ClassId) × (Nat → Nat)
abbrev zX : Type := Program × Env × Room × State × MethodId × Array Value × List Frame × Method × Code × (State → Prop)
/-- what cell c holds: its own ints g, its own longs h; references never change -/
def zsh0 (cy : Nat → ClassId) (ad : Nat → Nat) (g : Nat → Int32) (h : Nat → Int64) (c : Nat) : va_E := match c with
  | 0 => .inr (5, [.ref (ad 1), .ref (ad 46), .ref (ad 49), .ref (ad 4), .ref (ad 6), .ref (ad 3), .ref (ad 7), .ref (ad 11), .long (h 8)])
  | 1 => .inr (4, [.ref (ad 2), .int (g 1)])
  | 2 => .inl (cy 0, 90, .inl g)
  | 3 => .inl (cy 2, 2, .inl g)
  | 4 => .inr (0, [.ref (ad 5), .int (g 1), .int (g 2)])
  | 5 => .inl (cy 3, 14, .inr (.inr (.inr (.inr (fun i => if i < 14 then some (ad (52 + 3 * i)) else none)))))
  | 6 => .inl (cy 3, 2, .inr (.inr (.inr (.inr (fun i => if i < 2 then some (ad (94 + 3 * i)) else none)))))
  | 7 => .inr (1, [.ref (ad 8), .ref (ad 9), .ref (ad 10), .int (g 3), .int (g 4), .int (g 5), .long (h 6)])
  | 8 => .inl (cy 4, 6, .inr (.inr (.inr (.inr (fun i => if i < 6 then some (ad (15 + i)) else none)))))
  | 9 => .inl (cy 4, 6, .inr (.inr (.inr (.inr (fun i => if i < 6 then some (ad (21 + i)) else none)))))
  | 10 => .inl (cy 1, 6, .inr (.inl h))
  | 11 => .inr (2, [.ref (ad 12), .ref (ad 13), .ref (ad 14)])
  | 12 => .inl (cy 4, 5, .inr (.inr (.inr (.inr (fun i => if i < 5 then some (ad (27 + i)) else none)))))
  | 13 => .inl (cy 0, 5, .inl g)
  | 14 => .inl (cy 0, 256, .inl g)
  | 32 => .inr (6, [.int (g 0), .ref (ad 33), .int (g 2), .int (g 3), .int (g 4), .int (g 5), .ref (ad 34), .ref (ad 35), .ref (ad 36), .ref (ad 37), .ref (ad 38), .int (g 11), .ref (ad 39), .ref (ad 40), .long (h 14), .int (g 15), .ref (ad 41), .ref (ad 42), .long (h 18), .ref (ad 43), .ref (ad 44), .ref (ad 45), .long (h 22), .long (h 23)])
  | 33 => .inl (cy 0, 90, .inl g)
  | 34 => .inl (cy 0, 18, .inl g)
  | 35 => .inl (cy 0, 18, .inl g)
  | 36 => .inl (cy 0, 18, .inl g)
  | 37 => .inl (cy 0, 18, .inl g)
  | 38 => .inl (cy 0, 252, .inl g)
  | 39 => .inl (cy 0, 36, .inl g)
  | 40 => .inl (cy 2, 2, .inl g)
  | 41 => .inl (cy 1, 25, .inr (.inl h))
  | 42 => .inl (cy 1, 5, .inr (.inl h))
  | 43 => .inl (cy 1, 25, .inr (.inl h))
  | 44 => .inl (cy 0, 5, .inl g)
  | 45 => .inl (cy 0, 5, .inl g)
  | _ => .inl (cy 1, 6, .inr (.inl h))
def zsh (cy : Nat → ClassId) (ad : Nat → Nat) (g : Nat → Int32) (h : Nat → Int64) (c : Nat) : va_E :=
  if 46 ≤ c then (if (c - 46) % 3 = 0 then .inr (3, [.int (g 0), .int (g 1), .int (g 2), .ref (ad (c + 1)), .ref (ad (c + 2))]) else .inl (cy 0, 8, .inl g)) else zsh0 cy ad g h c
def zwd (E : zE) (M : zM) : va_W := (List.range 100).map (fun c => (E.2.2.2 c, zsh E.2.2.1 E.2.2.2 (M.1 c) (M.2 c) c))
def zA (E : zE) : Nat → Prop := fun q => ∃ c, c < 100 ∧ q = E.2.2.2 c
def zI (E : zE) : Prop := ∀ i j, i < 100 → j < 100 → E.2.2.2 i = E.2.2.2 j → i = j
abbrev ztys (E : zE) : List (ClassId × FieldType) := [(E.2.2.1 0, .int), (E.2.2.1 1, .long), (E.2.2.1 2, .boolean), (E.2.2.1 3, .object RX3), (E.2.2.1 4, .array .long)]
abbrev zNest : Cond := .methodLinkNest RX1 95 yX5_isLess RX5
def zG (E : zE) (U : State) : Prop := va_K E.2.1 vwCl (ztys E) U ∧ va_Nw zNest U
theorem zwd_get (E : zE) (M : zM) {c : Nat} (h : c < 100) : (zwd E M)[c]? = some (E.2.2.2 c, zsh E.2.2.1 E.2.2.2 (M.1 c) (M.2 c) c) := by
  simp [zwd, List.getElem?_map, List.getElem?_range, h]
theorem zwd_len (E : zE) (M : zM) : (zwd E M).length = 100 := by simp [zwd]
theorem zwd_set (E : zE) (M : zM) {c : Nat} (h : c < 100) (g : Nat → Int32) (k : Nat → Int64) : (zwd E M).set c (E.2.2.2 c, zsh E.2.2.1 E.2.2.2 g k c) = zwd E (va_up M.1 c g, va_up M.2 c k) := by
  apply List.ext_getElem?
  intro i
  by_cases hi : i < 100
  · rw [zwd_get _ _ hi, List.getElem?_set]
    by_cases e : c = i
    · subst e
      simp [zwd_len, h, va_up]
    · rw [if_neg e, zwd_get _ _ hi]
      have e2 : ¬ i = c := fun q => e q.symm
      simp [va_up, e2]
  · rw [List.getElem?_eq_none (by rw [List.length_set, zwd_len]; omega), List.getElem?_eq_none (by rw [zwd_len]; omega)]
theorem zwd_D (E : zE) (M : zM) (hI : zI E) : va_D (zA E) (zwd E M) := by
  refine ⟨fun i j p q hi hj e => ?_, fun k q hk => ?_⟩
  · have h1 : i < 100 := by
      have := (List.getElem?_eq_some_iff.mp hi).1
      rwa [zwd_len] at this
    have h2 : j < 100 := by
      have := (List.getElem?_eq_some_iff.mp hj).1
      rwa [zwd_len] at this
    rw [zwd_get _ _ h1] at hi
    rw [zwd_get _ _ h2] at hj
    cases hi; cases hj
    exact hI i j h1 h2 e
  · have h1 : k < 100 := by
      have := (List.getElem?_eq_some_iff.mp hk).1
      rwa [zwd_len] at this
    rw [zwd_get _ _ h1] at hk
    cases hk
    exact ⟨k, h1, rfl⟩
/-- at pc, with these locals known, this stack, this memory: the machine comes to its end -/
def zJ (E : zE) (x : zX) (pc : Nat) (lv : List (Nat × Value)) (st : List Value) (M : zM) : Prop :=
  ∀ (H : Heap) (locs : List Loc) (ls : Array Slot), lv_has ls x.2.2.2.2.2.2.2.2.1.maxLocals lv → va_P E.2.1 vwCl (zwd E M) H → va_S (zA E) x.2.2.2.1.heap H locs →
    W x.1 E.1 x.2.1 x.2.2.1 x.2.2.2.1 x.2.2.2.2.1 x.2.2.2.2.2.1 x.2.2.2.2.2.2.1 x.2.2.2.2.2.2.2.1 x.2.2.2.2.2.2.2.2.1 H locs 0 0 x.2.2.2.2.2.2.2.2.2 (F0 x.2.2.2.2.1 pc ls st)
def zOk (E : zE) (x : zX) (cc : ByteArray) (own : String) (nL : Nat) (R : Room) : Prop :=
  x.1.tables.exec = Jvm.exec ∧ x.2.2.2.2.2.2.2.2.1.code = cc ∧ x.2.2.2.2.2.2.2.2.1.maxLocals = nL ∧ x.2.2.2.1.vm.findClass own = some x.2.2.2.2.1.cls ∧ (∀ w ∈ zU, w.before x.2.2.2.2.2.1 x.2.2.2.1 = true) ∧ zG E x.2.2.2.1 ∧ zI E ∧ x.2.2.1 = R
def zputI (M : zM) (c k : Nat) (v : Int32) : zM := (va_up M.1 c (upd (M.1 c) k v), M.2)
def zputJ (M : zM) (c k : Nat) (v : Int64) : zM := (M.1, va_up M.2 c (vp_updL (M.2 c) k v))
def zsetI (M : zM) (c : Nat) (g : Nat → Int32) : zM := (va_up M.1 c g, M.2)
def zsetJ (M : zM) (c : Nat) (h : Nat → Int64) : zM := (M.1, va_up M.2 c h)
theorem zup_self {α : Type} (f : Nat → α) (c : Nat) : va_up f c (f c) = f := by
  funext i
  by_cases h : i = c
  · subst h; simp [va_up]
  · simp [va_up, h]
section ZJ
variable {E : zE} {x : zX} {cc : ByteArray} {own : String} {nL : Nat} {R : Room} {pc : Nat} {lv : List (Nat × Value)} {st : List Value} {M : zM}
theorem zJ_M {M2 : zM} (h : M = M2) (k : zJ E x pc lv st M2) : zJ E x pc lv st M := h ▸ k
theorem zJ_st {st2 : List Value} (h : st = st2) (k : zJ E x pc lv st2 M) : zJ E x pc lv st M := h ▸ k
theorem z_lv {lv2 : List (Nat × Value)} (ks : List Nat) (h : lv_pick lv ks = lv2) (k : zJ E x pc lv2 st M) : zJ E x pc lv st M := fun H locs ls hl hP hS => k H locs ls (lv_sub hl ks h) hP hS
theorem z_iconst (hx : zOk E x cc own nL R) {n : Int} {v : Int32} (d : decode cc pc = .ok (.iconst n, 1)) (hv : Int32.ofInt n = v) (k : zJ E x (pc + 1) lv (.int v :: st) M) : zJ E x pc lv (st) M := fun H locs ls hl hP hS => lv_iconst hx.1 hx.2.1 d hv (k H locs ls hl hP hS)
theorem z_bipush (hx : zOk E x cc own nL R) {n : Int} {v : Int32} (d : decode cc pc = .ok (.bipush n, 2)) (hv : (Int8.ofInt n).toInt32 = v) (k : zJ E x (pc + 2) lv (.int v :: st) M) : zJ E x pc lv (st) M := fun H locs ls hl hP hS => lv_bipush hx.1 hx.2.1 d hv (k H locs ls hl hP hS)
theorem z_sipush (hx : zOk E x cc own nL R) {n : Int} {v : Int32} (d : decode cc pc = .ok (.sipush n, 3)) (hv : (Int16.ofInt n).toInt32 = v) (k : zJ E x (pc + 3) lv (.int v :: st) M) : zJ E x pc lv (st) M := fun H locs ls hl hP hS => lv_sipush hx.1 hx.2.1 d hv (k H locs ls hl hP hS)
theorem z_lconst (hx : zOk E x cc own nL R) {n : Fin 2} {v : Int64} (d : decode cc pc = .ok (.lconst n, 1)) (hv : Int64.ofNat (n : Nat) = v) (k : zJ E x (pc + 1) lv (.long v :: st) M) : zJ E x pc lv (st) M := fun H locs ls hl hP hS => lv_lconst hx.1 hx.2.1 d hv (k H locs ls hl hP hS)
theorem z_iload_n (hx : zOk E x cc own nL R) (q : Nat) {k : Fin 4} {i : Nat} {v : Int32} (d : decode cc pc = .ok (.iload_n k, 1)) (hi : (k : Nat) = i) (hq : lv[q]? = some (i, .int v)) (kk : zJ E x (pc + 1) lv (.int v :: st) M) : zJ E x pc lv st M := fun H locs ls hl hP hS => lv_iload_n hx.1 hx.2.1 d hi (lv_at hl q hq) (kk H locs ls hl hP hS)
theorem z_iload (hx : zOk E x cc own nL R) (q : Nat) {i : Nat} {v : Int32} (d : decode cc pc = .ok (.iload i, 2)) (hq : lv[q]? = some (i, .int v)) (kk : zJ E x (pc + 2) lv (.int v :: st) M) : zJ E x pc lv st M := fun H locs ls hl hP hS => lv_iload hx.1 hx.2.1 d (lv_at hl q hq) (kk H locs ls hl hP hS)
theorem z_istore_n (hx : zOk E x cc own nL R) {k : Fin 4} {i : Nat} {v : Int32} {lv2 : List (Nat × Value)} (d : decode cc pc = .ok (.istore_n k, 1)) (hi : (k : Nat) = i) (hn : i < nL) (hl2 : (i, Value.int v) :: lv.filter (fun q => !(q.1 == i) && !(q.1 + 1 == i && q.2.category == 2)) = lv2) (kk : zJ E x (pc + 1) lv2 st M) : zJ E x pc lv (.int v :: st) M := fun H locs ls hl hP hS => lv_istore_n hx.1 hx.2.1 d hi hl (by rw [hx.2.2.1]; exact hn) hl2 (fun ls hl => kk H locs ls hl hP hS)
theorem z_istore (hx : zOk E x cc own nL R) {i : Nat} {v : Int32} {lv2 : List (Nat × Value)} (d : decode cc pc = .ok (.istore i, 2)) (hn : i < nL) (hl2 : (i, Value.int v) :: lv.filter (fun q => !(q.1 == i) && !(q.1 + 1 == i && q.2.category == 2)) = lv2) (kk : zJ E x (pc + 2) lv2 st M) : zJ E x pc lv (.int v :: st) M := fun H locs ls hl hP hS => lv_istore hx.1 hx.2.1 d hl (by rw [hx.2.2.1]; exact hn) hl2 (fun ls hl => kk H locs ls hl hP hS)
theorem z_lload_n (hx : zOk E x cc own nL R) (q : Nat) {k : Fin 4} {i : Nat} {v : Int64} (d : decode cc pc = .ok (.lload_n k, 1)) (hi : (k : Nat) = i) (hq : lv[q]? = some (i, .long v)) (kk : zJ E x (pc + 1) lv (.long v :: st) M) : zJ E x pc lv st M := fun H locs ls hl hP hS => lv_lload_n hx.1 hx.2.1 d hi (lv_at hl q hq) (kk H locs ls hl hP hS)
theorem z_lload (hx : zOk E x cc own nL R) (q : Nat) {i : Nat} {v : Int64} (d : decode cc pc = .ok (.lload i, 2)) (hq : lv[q]? = some (i, .long v)) (kk : zJ E x (pc + 2) lv (.long v :: st) M) : zJ E x pc lv st M := fun H locs ls hl hP hS => lv_lload hx.1 hx.2.1 d (lv_at hl q hq) (kk H locs ls hl hP hS)
theorem z_lstore_n (hx : zOk E x cc own nL R) {k : Fin 4} {i : Nat} {v : Int64} {lv2 : List (Nat × Value)} (d : decode cc pc = .ok (.lstore_n k, 1)) (hi : (k : Nat) = i) (hn : i + 1 < nL) (hl2 : (i, Value.long v) :: lv.filter (fun q => !(q.1 == i) && (!(q.1 == i + 1) && !(q.1 + 1 == i && q.2.category == 2))) = lv2) (kk : zJ E x (pc + 1) lv2 st M) : zJ E x pc lv (.long v :: st) M := fun H locs ls hl hP hS => lv_lstore_n hx.1 hx.2.1 d hi hl (by rw [hx.2.2.1]; exact hn) hl2 (fun ls hl => kk H locs ls hl hP hS)
theorem z_lstore (hx : zOk E x cc own nL R) {i : Nat} {v : Int64} {lv2 : List (Nat × Value)} (d : decode cc pc = .ok (.lstore i, 2)) (hn : i + 1 < nL) (hl2 : (i, Value.long v) :: lv.filter (fun q => !(q.1 == i) && (!(q.1 == i + 1) && !(q.1 + 1 == i && q.2.category == 2))) = lv2) (kk : zJ E x (pc + 2) lv2 st M) : zJ E x pc lv (.long v :: st) M := fun H locs ls hl hP hS => lv_lstore hx.1 hx.2.1 d hl (by rw [hx.2.2.1]; exact hn) hl2 (fun ls hl => kk H locs ls hl hP hS)
theorem z_aload_n (hx : zOk E x cc own nL R) (q : Nat) {k : Fin 4} {i : Nat} {v : Nat} (d : decode cc pc = .ok (.aload_n k, 1)) (hi : (k : Nat) = i) (hq : lv[q]? = some (i, .ref v)) (kk : zJ E x (pc + 1) lv (.ref v :: st) M) : zJ E x pc lv st M := fun H locs ls hl hP hS => lv_aload_n hx.1 hx.2.1 d hi (lv_at hl q hq) (kk H locs ls hl hP hS)
theorem z_aload (hx : zOk E x cc own nL R) (q : Nat) {i : Nat} {v : Nat} (d : decode cc pc = .ok (.aload i, 2)) (hq : lv[q]? = some (i, .ref v)) (kk : zJ E x (pc + 2) lv (.ref v :: st) M) : zJ E x pc lv st M := fun H locs ls hl hP hS => lv_aload hx.1 hx.2.1 d (lv_at hl q hq) (kk H locs ls hl hP hS)
theorem z_astore_n (hx : zOk E x cc own nL R) {k : Fin 4} {i : Nat} {v : Nat} {lv2 : List (Nat × Value)} (d : decode cc pc = .ok (.astore_n k, 1)) (hi : (k : Nat) = i) (hn : i < nL) (hl2 : (i, Value.ref v) :: lv.filter (fun q => !(q.1 == i) && !(q.1 + 1 == i && q.2.category == 2)) = lv2) (kk : zJ E x (pc + 1) lv2 st M) : zJ E x pc lv (.ref v :: st) M := fun H locs ls hl hP hS => lv_astore_n hx.1 hx.2.1 d hi hl (by rw [hx.2.2.1]; exact hn) hl2 (fun ls hl => kk H locs ls hl hP hS)
theorem z_astore (hx : zOk E x cc own nL R) {i : Nat} {v : Nat} {lv2 : List (Nat × Value)} (d : decode cc pc = .ok (.astore i, 2)) (hn : i < nL) (hl2 : (i, Value.ref v) :: lv.filter (fun q => !(q.1 == i) && !(q.1 + 1 == i && q.2.category == 2)) = lv2) (kk : zJ E x (pc + 2) lv2 st M) : zJ E x pc lv (.ref v :: st) M := fun H locs ls hl hP hS => lv_astore hx.1 hx.2.1 d hl (by rw [hx.2.2.1]; exact hn) hl2 (fun ls hl => kk H locs ls hl hP hS)
theorem z_iinc (hx : zOk E x cc own nL R) (q : Nat) {i : Nat} {n : Int} {v w : Int32} {lv2 : List (Nat × Value)} (d : decode cc pc = .ok (.iinc i n, 3)) (hq : lv[q]? = some (i, .int v)) (hv : v + Int32.ofInt n = w) (hn : i < nL) (hl2 : (i, Value.int w) :: lv.filter (fun q => !(q.1 == i) && !(q.1 + 1 == i && q.2.category == 2)) = lv2) (kk : zJ E x (pc + 3) lv2 st M) : zJ E x pc lv st M := fun H locs ls hl hP hS => lv_iinc hx.1 hx.2.1 d hl hq hv (by rw [hx.2.2.1]; exact hn) hl2 (fun ls hl => kk H locs ls hl hP hS)
theorem z_iadd (hx : zOk E x cc own nL R) {a b : Int32} (d : decode cc pc = .ok (.iadd, 1)) (k : zJ E x (pc + 1) lv (.int (a + b) :: st) M) : zJ E x pc lv (.int b :: .int a :: st) M := fun H locs ls hl hP hS => lv_iadd hx.1 hx.2.1 d (k H locs ls hl hP hS)
theorem z_isub (hx : zOk E x cc own nL R) {a b : Int32} (d : decode cc pc = .ok (.isub, 1)) (k : zJ E x (pc + 1) lv (.int (a - b) :: st) M) : zJ E x pc lv (.int b :: .int a :: st) M := fun H locs ls hl hP hS => lv_isub hx.1 hx.2.1 d (k H locs ls hl hP hS)
theorem z_imul (hx : zOk E x cc own nL R) {a b : Int32} (d : decode cc pc = .ok (.imul, 1)) (k : zJ E x (pc + 1) lv (.int (a * b) :: st) M) : zJ E x pc lv (.int b :: .int a :: st) M := fun H locs ls hl hP hS => lv_imul hx.1 hx.2.1 d (k H locs ls hl hP hS)
theorem z_iand (hx : zOk E x cc own nL R) {a b : Int32} (d : decode cc pc = .ok (.iand, 1)) (k : zJ E x (pc + 1) lv (.int (a &&& b) :: st) M) : zJ E x pc lv (.int b :: .int a :: st) M := fun H locs ls hl hP hS => lv_iand hx.1 hx.2.1 d (k H locs ls hl hP hS)
theorem z_ior (hx : zOk E x cc own nL R) {a b : Int32} (d : decode cc pc = .ok (.ior, 1)) (k : zJ E x (pc + 1) lv (.int (a ||| b) :: st) M) : zJ E x pc lv (.int b :: .int a :: st) M := fun H locs ls hl hP hS => lv_ior hx.1 hx.2.1 d (k H locs ls hl hP hS)
theorem z_ixor (hx : zOk E x cc own nL R) {a b : Int32} (d : decode cc pc = .ok (.ixor, 1)) (k : zJ E x (pc + 1) lv (.int (a ^^^ b) :: st) M) : zJ E x pc lv (.int b :: .int a :: st) M := fun H locs ls hl hP hS => lv_ixor hx.1 hx.2.1 d (k H locs ls hl hP hS)
theorem z_ishl (hx : zOk E x cc own nL R) {a b : Int32} (d : decode cc pc = .ok (.ishl, 1)) (k : zJ E x (pc + 1) lv (.int (a <<< (b &&& 31)) :: st) M) : zJ E x pc lv (.int b :: .int a :: st) M := fun H locs ls hl hP hS => lv_ishl hx.1 hx.2.1 d (k H locs ls hl hP hS)
theorem z_ishr (hx : zOk E x cc own nL R) {a b : Int32} (d : decode cc pc = .ok (.ishr, 1)) (k : zJ E x (pc + 1) lv (.int (a >>> (b &&& 31)) :: st) M) : zJ E x pc lv (.int b :: .int a :: st) M := fun H locs ls hl hP hS => lv_ishr hx.1 hx.2.1 d (k H locs ls hl hP hS)
theorem z_idiv (hx : zOk E x cc own nL R) {a b : Int32} (d : decode cc pc = .ok (.idiv, 1)) (hne : ¬ b = 0) (k : zJ E x (pc + 1) lv (.int (a / b) :: st) M) : zJ E x pc lv (.int b :: .int a :: st) M := fun H locs ls hl hP hS => lv_idiv hx.1 hx.2.1 d hne (k H locs ls hl hP hS)
theorem z_irem (hx : zOk E x cc own nL R) {a b : Int32} (d : decode cc pc = .ok (.irem, 1)) (hne : ¬ b = 0) (k : zJ E x (pc + 1) lv (.int (a - a / b * b) :: st) M) : zJ E x pc lv (.int b :: .int a :: st) M := fun H locs ls hl hP hS => lv_irem hx.1 hx.2.1 d hne (k H locs ls hl hP hS)
theorem z_ineg (hx : zOk E x cc own nL R) {a : Int32} (d : decode cc pc = .ok (.ineg, 1)) (k : zJ E x (pc + 1) lv (.int (-a) :: st) M) : zJ E x pc lv (.int a :: st) M := fun H locs ls hl hP hS => lv_ineg hx.1 hx.2.1 d (k H locs ls hl hP hS)
theorem z_iushr (hx : zOk E x cc own nL R) {a b v : Int32} (d : decode cc pc = .ok (.iushr, 1)) (hv : (a.toUInt32 >>> (b.toUInt32 &&& Int32.toUInt32 31)).toInt32 = v) (k : zJ E x (pc + 1) lv (.int v :: st) M) : zJ E x pc lv (.int b :: .int a :: st) M := fun H locs ls hl hP hS => lv_iushr hx.1 hx.2.1 d hv (k H locs ls hl hP hS)
theorem z_ladd (hx : zOk E x cc own nL R) {a b : Int64} (d : decode cc pc = .ok (.ladd, 1)) (k : zJ E x (pc + 1) lv (.long (a + b) :: st) M) : zJ E x pc lv (.long b :: .long a :: st) M := fun H locs ls hl hP hS => lv_ladd hx.1 hx.2.1 d (k H locs ls hl hP hS)
theorem z_lsub (hx : zOk E x cc own nL R) {a b : Int64} (d : decode cc pc = .ok (.lsub, 1)) (k : zJ E x (pc + 1) lv (.long (a - b) :: st) M) : zJ E x pc lv (.long b :: .long a :: st) M := fun H locs ls hl hP hS => lv_lsub hx.1 hx.2.1 d (k H locs ls hl hP hS)
theorem z_lmul (hx : zOk E x cc own nL R) {a b : Int64} (d : decode cc pc = .ok (.lmul, 1)) (k : zJ E x (pc + 1) lv (.long (a * b) :: st) M) : zJ E x pc lv (.long b :: .long a :: st) M := fun H locs ls hl hP hS => lv_lmul hx.1 hx.2.1 d (k H locs ls hl hP hS)
theorem z_land (hx : zOk E x cc own nL R) {a b : Int64} (d : decode cc pc = .ok (.land, 1)) (k : zJ E x (pc + 1) lv (.long (a &&& b) :: st) M) : zJ E x pc lv (.long b :: .long a :: st) M := fun H locs ls hl hP hS => lv_land hx.1 hx.2.1 d (k H locs ls hl hP hS)
theorem z_lor (hx : zOk E x cc own nL R) {a b : Int64} (d : decode cc pc = .ok (.lor, 1)) (k : zJ E x (pc + 1) lv (.long (a ||| b) :: st) M) : zJ E x pc lv (.long b :: .long a :: st) M := fun H locs ls hl hP hS => lv_lor hx.1 hx.2.1 d (k H locs ls hl hP hS)
theorem z_ldiv (hx : zOk E x cc own nL R) {a b : Int64} (d : decode cc pc = .ok (.ldiv, 1)) (hne : ¬ b = 0) (k : zJ E x (pc + 1) lv (.long (a / b) :: st) M) : zJ E x pc lv (.long b :: .long a :: st) M := fun H locs ls hl hP hS => lv_ldiv hx.1 hx.2.1 d hne (k H locs ls hl hP hS)
theorem z_lrem (hx : zOk E x cc own nL R) {a b : Int64} (d : decode cc pc = .ok (.lrem, 1)) (hne : ¬ b = 0) (k : zJ E x (pc + 1) lv (.long (a - a / b * b) :: st) M) : zJ E x pc lv (.long b :: .long a :: st) M := fun H locs ls hl hP hS => lv_lrem hx.1 hx.2.1 d hne (k H locs ls hl hP hS)
theorem z_lneg (hx : zOk E x cc own nL R) {a : Int64} (d : decode cc pc = .ok (.lneg, 1)) (k : zJ E x (pc + 1) lv (.long (-a) :: st) M) : zJ E x pc lv (.long a :: st) M := fun H locs ls hl hP hS => lv_lneg hx.1 hx.2.1 d (k H locs ls hl hP hS)
theorem z_i2l (hx : zOk E x cc own nL R) {a : Int32} (d : decode cc pc = .ok (.i2l, 1)) (k : zJ E x (pc + 1) lv (.long a.toInt64 :: st) M) : zJ E x pc lv (.int a :: st) M := fun H locs ls hl hP hS => lv_i2l hx.1 hx.2.1 d rfl (k H locs ls hl hP hS)
theorem z_l2i (hx : zOk E x cc own nL R) {a : Int64} (d : decode cc pc = .ok (.l2i, 1)) (k : zJ E x (pc + 1) lv (.int a.toInt32 :: st) M) : zJ E x pc lv (.long a :: st) M := fun H locs ls hl hP hS => lv_l2i hx.1 hx.2.1 d rfl (k H locs ls hl hP hS)
theorem z_lushr (hx : zOk E x cc own nL R) {a : Int64} {b : Int32} (d : decode cc pc = .ok (.lushr, 1)) (k : zJ E x (pc + 1) lv (.long (a.toUInt64 >>> (b.toInt64.toUInt64 &&& Int64.toUInt64 63)).toInt64 :: st) M) : zJ E x pc lv (.int b :: .long a :: st) M := fun H locs ls hl hP hS => lv_lushr hx.1 hx.2.1 d rfl (k H locs ls hl hP hS)
theorem z_lshl (hx : zOk E x cc own nL R) {a : Int64} {b : Int32} (d : decode cc pc = .ok (.lshl, 1)) (k : zJ E x (pc + 1) lv (.long (a <<< (b.toInt64 &&& 63)) :: st) M) : zJ E x pc lv (.int b :: .long a :: st) M := fun H locs ls hl hP hS => lv_lshl hx.1 hx.2.1 d rfl (k H locs ls hl hP hS)
theorem z_lcmp (hx : zOk E x cc own nL R) {a b : Int64} (d : decode cc pc = .ok (.lcmp, 1)) (k : zJ E x (pc + 1) lv (.int (lg_cmp a b) :: st) M) : zJ E x pc lv (.long b :: .long a :: st) M := fun H locs ls hl hP hS => W.lcmp hx.1 hx.2.1 d (k H locs ls hl hP hS)
theorem z_dup (hx : zOk E x cc own nL R) {va : Value} (d : decode cc pc = .ok (.dup, 1)) (h1 : va.category = 1) (k : zJ E x (pc + 1) lv (va :: va :: st) M) : zJ E x pc lv (va :: st) M := fun H locs ls hl hP hS => lv_dup hx.1 hx.2.1 d h1 (k H locs ls hl hP hS)
theorem z_pop (hx : zOk E x cc own nL R) {va : Value} (d : decode cc pc = .ok (.pop, 1)) (h1 : va.category = 1) (k : zJ E x (pc + 1) lv (st) M) : zJ E x pc lv (va :: st) M := fun H locs ls hl hP hS => lv_pop hx.1 hx.2.1 d h1 (k H locs ls hl hP hS)
theorem z_dup_x1 (hx : zOk E x cc own nL R) {va vb : Value} (d : decode cc pc = .ok (.dup_x1, 1)) (h1 : va.category = 1) (h2 : vb.category = 1) (k : zJ E x (pc + 1) lv (va :: vb :: va :: st) M) : zJ E x pc lv (va :: vb :: st) M := fun H locs ls hl hP hS => lv_dup_x1 hx.1 hx.2.1 d h1 h2 (k H locs ls hl hP hS)
theorem z_dup_x2 (hx : zOk E x cc own nL R) {va vb vd : Value} (d : decode cc pc = .ok (.dup_x2, 1)) (h1 : va.category = 1) (h2 : vb.category = 1) (h3 : vd.category = 1) (k : zJ E x (pc + 1) lv (va :: vb :: vd :: va :: st) M) : zJ E x pc lv (va :: vb :: vd :: st) M := fun H locs ls hl hP hS => lv_dup_x2 hx.1 hx.2.1 d h1 h2 h3 (k H locs ls hl hP hS)
theorem z_dup2_11 (hx : zOk E x cc own nL R) {va vb : Value} (d : decode cc pc = .ok (.dup2, 1)) (h1 : va.category = 1) (h2 : vb.category = 1) (k : zJ E x (pc + 1) lv (va :: vb :: va :: vb :: st) M) : zJ E x pc lv (va :: vb :: st) M := fun H locs ls hl hP hS => lv_dup2_11 hx.1 hx.2.1 d h1 h2 (k H locs ls hl hP hS)
theorem z_dup2_2 (hx : zOk E x cc own nL R) {va : Value} (d : decode cc pc = .ok (.dup2, 1)) (h1 : va.category = 2) (k : zJ E x (pc + 1) lv (va :: va :: st) M) : zJ E x pc lv (va :: st) M := fun H locs ls hl hP hS => lv_dup2_2 hx.1 hx.2.1 d h1 (k H locs ls hl hP hS)
theorem z_if_eq (hx : zOk E x cc own nL R) {x0 : Int32} {off : Int} {tgt : Nat} (d : decode cc pc = .ok (.ifCond .eq off, 3)) (ht : (pc : Int) + off = (tgt : Int)) (kt : x0 = 0 → zJ E x tgt lv st M) (kf : ¬ x0 = 0 → zJ E x (pc + 3) lv st M) : zJ E x pc lv (.int x0 :: st) M := fun H locs ls hl hP hS => lv_if_eq hx.1 hx.2.1 d ht (fun q => kt q H locs ls hl hP hS) (fun q => kf q H locs ls hl hP hS)
theorem z_icmp_eq (hx : zOk E x cc own nL R) {x0 y0 : Int32} {off : Int} {tgt : Nat} (d : decode cc pc = .ok (.if_icmp .eq off, 3)) (ht : (pc : Int) + off = (tgt : Int)) (kt : x0 = y0 → zJ E x tgt lv st M) (kf : ¬ x0 = y0 → zJ E x (pc + 3) lv st M) : zJ E x pc lv (.int y0 :: .int x0 :: st) M := fun H locs ls hl hP hS => lv_icmp_eq hx.1 hx.2.1 d ht (fun q => kt q H locs ls hl hP hS) (fun q => kf q H locs ls hl hP hS)
theorem z_if_ne (hx : zOk E x cc own nL R) {x0 : Int32} {off : Int} {tgt : Nat} (d : decode cc pc = .ok (.ifCond .ne off, 3)) (ht : (pc : Int) + off = (tgt : Int)) (kt : ¬ x0 = 0 → zJ E x tgt lv st M) (kf : x0 = 0 → zJ E x (pc + 3) lv st M) : zJ E x pc lv (.int x0 :: st) M := fun H locs ls hl hP hS => lv_if_ne hx.1 hx.2.1 d ht (fun q => kt q H locs ls hl hP hS) (fun q => kf q H locs ls hl hP hS)
theorem z_icmp_ne (hx : zOk E x cc own nL R) {x0 y0 : Int32} {off : Int} {tgt : Nat} (d : decode cc pc = .ok (.if_icmp .ne off, 3)) (ht : (pc : Int) + off = (tgt : Int)) (kt : ¬ x0 = y0 → zJ E x tgt lv st M) (kf : x0 = y0 → zJ E x (pc + 3) lv st M) : zJ E x pc lv (.int y0 :: .int x0 :: st) M := fun H locs ls hl hP hS => lv_icmp_ne hx.1 hx.2.1 d ht (fun q => kt q H locs ls hl hP hS) (fun q => kf q H locs ls hl hP hS)
theorem z_if_lt (hx : zOk E x cc own nL R) {x0 : Int32} {off : Int} {tgt : Nat} (d : decode cc pc = .ok (.ifCond .lt off, 3)) (ht : (pc : Int) + off = (tgt : Int)) (kt : x0 < 0 → zJ E x tgt lv st M) (kf : ¬ x0 < 0 → zJ E x (pc + 3) lv st M) : zJ E x pc lv (.int x0 :: st) M := fun H locs ls hl hP hS => lv_if_lt hx.1 hx.2.1 d ht (fun q => kt q H locs ls hl hP hS) (fun q => kf q H locs ls hl hP hS)
theorem z_icmp_lt (hx : zOk E x cc own nL R) {x0 y0 : Int32} {off : Int} {tgt : Nat} (d : decode cc pc = .ok (.if_icmp .lt off, 3)) (ht : (pc : Int) + off = (tgt : Int)) (kt : x0 < y0 → zJ E x tgt lv st M) (kf : ¬ x0 < y0 → zJ E x (pc + 3) lv st M) : zJ E x pc lv (.int y0 :: .int x0 :: st) M := fun H locs ls hl hP hS => lv_icmp_lt hx.1 hx.2.1 d ht (fun q => kt q H locs ls hl hP hS) (fun q => kf q H locs ls hl hP hS)
theorem z_if_ge (hx : zOk E x cc own nL R) {x0 : Int32} {off : Int} {tgt : Nat} (d : decode cc pc = .ok (.ifCond .ge off, 3)) (ht : (pc : Int) + off = (tgt : Int)) (kt : 0 ≤ x0 → zJ E x tgt lv st M) (kf : ¬ 0 ≤ x0 → zJ E x (pc + 3) lv st M) : zJ E x pc lv (.int x0 :: st) M := fun H locs ls hl hP hS => lv_if_ge hx.1 hx.2.1 d ht (fun q => kt q H locs ls hl hP hS) (fun q => kf q H locs ls hl hP hS)
theorem z_icmp_ge (hx : zOk E x cc own nL R) {x0 y0 : Int32} {off : Int} {tgt : Nat} (d : decode cc pc = .ok (.if_icmp .ge off, 3)) (ht : (pc : Int) + off = (tgt : Int)) (kt : y0 ≤ x0 → zJ E x tgt lv st M) (kf : ¬ y0 ≤ x0 → zJ E x (pc + 3) lv st M) : zJ E x pc lv (.int y0 :: .int x0 :: st) M := fun H locs ls hl hP hS => lv_icmp_ge hx.1 hx.2.1 d ht (fun q => kt q H locs ls hl hP hS) (fun q => kf q H locs ls hl hP hS)
theorem z_if_gt (hx : zOk E x cc own nL R) {x0 : Int32} {off : Int} {tgt : Nat} (d : decode cc pc = .ok (.ifCond .gt off, 3)) (ht : (pc : Int) + off = (tgt : Int)) (kt : 0 < x0 → zJ E x tgt lv st M) (kf : ¬ 0 < x0 → zJ E x (pc + 3) lv st M) : zJ E x pc lv (.int x0 :: st) M := fun H locs ls hl hP hS => lv_if_gt hx.1 hx.2.1 d ht (fun q => kt q H locs ls hl hP hS) (fun q => kf q H locs ls hl hP hS)
theorem z_icmp_gt (hx : zOk E x cc own nL R) {x0 y0 : Int32} {off : Int} {tgt : Nat} (d : decode cc pc = .ok (.if_icmp .gt off, 3)) (ht : (pc : Int) + off = (tgt : Int)) (kt : y0 < x0 → zJ E x tgt lv st M) (kf : ¬ y0 < x0 → zJ E x (pc + 3) lv st M) : zJ E x pc lv (.int y0 :: .int x0 :: st) M := fun H locs ls hl hP hS => lv_icmp_gt hx.1 hx.2.1 d ht (fun q => kt q H locs ls hl hP hS) (fun q => kf q H locs ls hl hP hS)
theorem z_if_le (hx : zOk E x cc own nL R) {x0 : Int32} {off : Int} {tgt : Nat} (d : decode cc pc = .ok (.ifCond .le off, 3)) (ht : (pc : Int) + off = (tgt : Int)) (kt : x0 ≤ 0 → zJ E x tgt lv st M) (kf : ¬ x0 ≤ 0 → zJ E x (pc + 3) lv st M) : zJ E x pc lv (.int x0 :: st) M := fun H locs ls hl hP hS => lv_if_le hx.1 hx.2.1 d ht (fun q => kt q H locs ls hl hP hS) (fun q => kf q H locs ls hl hP hS)
theorem z_icmp_le (hx : zOk E x cc own nL R) {x0 y0 : Int32} {off : Int} {tgt : Nat} (d : decode cc pc = .ok (.if_icmp .le off, 3)) (ht : (pc : Int) + off = (tgt : Int)) (kt : x0 ≤ y0 → zJ E x tgt lv st M) (kf : ¬ x0 ≤ y0 → zJ E x (pc + 3) lv st M) : zJ E x pc lv (.int y0 :: .int x0 :: st) M := fun H locs ls hl hP hS => lv_icmp_le hx.1 hx.2.1 d ht (fun q => kt q H locs ls hl hP hS) (fun q => kf q H locs ls hl hP hS)
theorem z_goto (hx : zOk E x cc own nL R) {off : Int} {tgt : Nat} (d : decode cc pc = .ok (.goto off, 3)) (ht : (pc : Int) + off = (tgt : Int)) (k : zJ E x tgt lv st M) : zJ E x pc lv st M := fun H locs ls hl hP hS => lv_goto hx.1 hx.2.1 d ht (k H locs ls hl hP hS)
theorem z_tableIn (hx : zOk E x cc own nL R) {dflt lo hi : Int} {offs : Array Int} {len : Nat} {x0 : Int32} {off : Int} {tgt : Nat} (d : decode cc pc = .ok (.tableswitch dflt lo hi offs, len)) (h1 : ¬ x0.toInt < lo) (h2 : ¬ hi < x0.toInt) (ho : offs[(x0.toInt - lo).toNat]? = some off) (ht : (pc : Int) + off = (tgt : Int)) (k : zJ E x tgt lv st M) : zJ E x pc lv (.int x0 :: st) M := fun H locs ls hl hP hS => lv_tableIn hx.1 hx.2.1 d h1 h2 ho ht (k H locs ls hl hP hS)
theorem z_tableOut (hx : zOk E x cc own nL R) {dflt lo hi : Int} {offs : Array Int} {len : Nat} {x0 : Int32} {tgt : Nat} (d : decode cc pc = .ok (.tableswitch dflt lo hi offs, len)) (h : x0.toInt < lo ∨ hi < x0.toInt) (ht : (pc : Int) + dflt = (tgt : Int)) (k : zJ E x tgt lv st M) : zJ E x pc lv (.int x0 :: st) M := fun H locs ls hl hP hS => lv_tableOut hx.1 hx.2.1 d h ht (k H locs ls hl hP hS)
theorem z_ldc2 (hx : zOk E x cc own nL R) {index : Nat} {v : Int64} (hw : Cond.constantLong own index v ∈ zU) (d : decode cc pc = .ok (.ldc2_w index, 3)) (k : zJ E x (pc + 3) lv (.long v :: st) M) : zJ E x pc lv st M := fun H locs ls hl hP hS => lv_ldc2 hx.1 hx.2.1 hx.2.2.2.1 (hx.2.2.2.2.1 _ hw) d (k H locs ls hl hP hS)
theorem z_ldcw (hx : zOk E x cc own nL R) {index : Nat} {v : Int32} (hw : Cond.constant own index v ∈ zU) (d : decode cc pc = .ok (.ldc_w index, 3)) (k : zJ E x (pc + 3) lv (.int v :: st) M) : zJ E x pc lv st M := fun H locs ls hl hP hS => lv_ldcw hx.1 hx.2.1 hx.2.2.2.1 (hx.2.2.2.2.1 _ hw) d (k H locs ls hl hP hS)
theorem z_get (hx : zOk E x cc own nL R) {c ci k N index : Nat} {C : String} {T : u_T} {fs : List Value} {v : Value} (hc : c < 100) (hs : zsh E.2.2.1 E.2.2.2 (M.1 c) (M.2 c) c = .inr (ci, fs)) (hci : vwCl[ci]? = some (C, T, N)) (hin : ∀ w ∈ u_ws C T N, w ∈ zU) (hk : k < N) (hl : Cond.fieldLink own index (T k).1 (T k).2.1 (T k).2.2.1 ∈ zU) (hv : fs[k]? = some v) (d : decode cc pc = .ok (.getfield index, 3)) (kk : zJ E x (pc + 3) lv (v :: st) M) : zJ E x pc lv (.ref (E.2.2.2 c) :: st) M := fun H locs ls hl2 hP hS =>
  va_get (C := C) (T := T) (N := N) (Ts := zU) (ref := (T k).1) hx.1 hx.2.1 hx.2.2.2.2.1 hin hx.2.2.2.1 hx.2.2.2.2.2.1.1 hP c ((zwd_get E M hc).trans (by rw [hs])) hci k hk (hx.2.2.2.2.1 _ hl) (fun _ h => h) hv d (kk H locs ls hl2 hP hS)
theorem z_put (hx : zOk E x cc own nL R) {c ci k N index : Nat} {C : String} {T : u_T} {ty0 : Nat → FieldType} {ty : FieldType} {fs : List Value} {v : Value} {g : Nat → Int32} {h : Nat → Int64} (hc : c < 100) (hs : zsh E.2.2.1 E.2.2.2 (M.1 c) (M.2 c) c = .inr (ci, fs)) (hs2 : zsh E.2.2.1 E.2.2.2 g h c = .inr (ci, fs.set k v)) (hci : vwCl[ci]? = some (C, T, N)) (hin : ∀ w ∈ u_ws C T N, w ∈ zU) (hty : ∀ k, k < N → parseFieldDescriptor (T k).2.2.1 = some (ty0 k)) (hnm : ∀ a, a < N → ∀ b, b < N → a ≠ b → (T a).2.1 ≠ (T b).2.1) (hk : k < N) (hl : Cond.fieldLink own index (T k).1 (T k).2.1 (T k).2.2.1 ∈ zU) (hfin : (T k).2.2.2 = false) (hd : parseFieldDescriptor (T k).2.2.1 = some ty) (hn : narrow ty v = v) (hfit : fits ty v = true) (hlen : k < fs.length) (d : decode cc pc = .ok (.putfield index, 3)) (kk : zJ E x (pc + 3) lv st (va_up M.1 c g, va_up M.2 c h)) : zJ E x pc lv (v :: .ref (E.2.2.2 c) :: st) M := fun H locs ls hl2 hP hS =>
  va_put (C := C) (T := T) (N := N) (Ts := zU) (ref := (T k).1) hx.1 hx.2.1 hx.2.2.2.2.1 hin ty0 hty hnm hx.2.2.2.1 hx.2.2.2.2.2.1.1 hP (zwd_D E M hx.2.2.2.2.2.2.1) hS c ((zwd_get E M hc).trans (by rw [hs])) hci k hk (hx.2.2.2.2.1 _ hl) (fun _ h => h) hfin hd hn hfit hlen d (fun H1 locs1 hP1 _ hS1 => kk H1 locs1 ls hl2 (by rw [← zwd_set E M hc g h, hs2]; exact hP1) hS1)
theorem z_iald (hx : zOk E x cc own nL R) {c n : Nat} {i : Int32} (hc : c < 100) (hs : zsh E.2.2.1 E.2.2.2 (M.1 c) (M.2 c) c = .inl (E.2.2.1 0, n, .inl (M.1 c))) (hin : vp_in i n) (d : decode cc pc = .ok (.iaload, 1)) (kk : zJ E x (pc + 1) lv (.int (M.1 c i.toNatClampNeg) :: st) M) : zJ E x pc lv (.int i :: .ref (E.2.2.2 c) :: st) M := fun H locs ls hl2 hP hS =>
  va_iald hx.1 hx.2.1 hx.2.2.2.2.2.1.1 hP c 0 ((zwd_get E M hc).trans (by rw [hs])) rfl hin d (kk H locs ls hl2 hP hS)
theorem z_zald (hx : zOk E x cc own nL R) {c n : Nat} {i : Int32} (hc : c < 100) (hs : zsh E.2.2.1 E.2.2.2 (M.1 c) (M.2 c) c = .inl (E.2.2.1 2, n, .inl (M.1 c))) (hin : vp_in i n) (d : decode cc pc = .ok (.baload, 1)) (kk : zJ E x (pc + 1) lv (.int (M.1 c i.toNatClampNeg) :: st) M) : zJ E x pc lv (.int i :: .ref (E.2.2.2 c) :: st) M := fun H locs ls hl2 hP hS =>
  va_zald hx.1 hx.2.1 hx.2.2.2.2.2.1.1 hP c 2 ((zwd_get E M hc).trans (by rw [hs])) rfl hin d (kk H locs ls hl2 hP hS)
theorem z_lald (hx : zOk E x cc own nL R) {c n : Nat} {i : Int32} (hc : c < 100) (hs : zsh E.2.2.1 E.2.2.2 (M.1 c) (M.2 c) c = .inl (E.2.2.1 1, n, .inr (.inl (M.2 c)))) (hin : vp_in i n) (d : decode cc pc = .ok (.laload, 1)) (kk : zJ E x (pc + 1) lv (.long (M.2 c i.toNatClampNeg) :: st) M) : zJ E x pc lv (.int i :: .ref (E.2.2.2 c) :: st) M := fun H locs ls hl2 hP hS =>
  va_lald hx.1 hx.2.1 hx.2.2.2.2.2.1.1 hP c 1 ((zwd_get E M hc).trans (by rw [hs])) rfl hin d (kk H locs ls hl2 hP hS)
theorem z_iast (hx : zOk E x cc own nL R) {c n : Nat} {i v : Int32} (hc : c < 100) (hs : ∀ g, zsh E.2.2.1 E.2.2.2 g (M.2 c) c = .inl (E.2.2.1 0, n, .inl g)) (hin : vp_in i n) (d : decode cc pc = .ok (.iastore, 1)) (kk : zJ E x (pc + 1) lv st (zputI M c i.toNatClampNeg v)) : zJ E x pc lv (.int v :: .int i :: .ref (E.2.2.2 c) :: st) M := fun H locs ls hl2 hP hS =>
  va_iast hx.1 hx.2.1 hx.2.2.2.2.2.1.1 hP (zwd_D E M hx.2.2.2.2.2.2.1) hS c 0 ((zwd_get E M hc).trans (by rw [hs])) rfl hin d (fun H1 locs1 hP1 _ hS1 => kk H1 locs1 ls hl2 (by
    have e := zwd_set E M hc (upd (M.1 c) i.toNatClampNeg v) (M.2 c)
    rw [zup_self, hs] at e
    unfold zputI
    rw [← e]; exact hP1) hS1)
theorem z_zast (hx : zOk E x cc own nL R) {c n : Nat} {i v : Int32} (hc : c < 100) (hs : ∀ g, zsh E.2.2.1 E.2.2.2 g (M.2 c) c = .inl (E.2.2.1 2, n, .inl g)) (hin : vp_in i n) (hv : vp_nar .boolean v = v) (d : decode cc pc = .ok (.bastore, 1)) (kk : zJ E x (pc + 1) lv st (zputI M c i.toNatClampNeg v)) : zJ E x pc lv (.int v :: .int i :: .ref (E.2.2.2 c) :: st) M := fun H locs ls hl2 hP hS =>
  va_zast hx.1 hx.2.1 hx.2.2.2.2.2.1.1 hP (zwd_D E M hx.2.2.2.2.2.2.1) hS c 2 ((zwd_get E M hc).trans (by rw [hs])) rfl hin d (fun H1 locs1 hP1 _ hS1 => kk H1 locs1 ls hl2 (by
    have e := zwd_set E M hc (upd (M.1 c) i.toNatClampNeg v) (M.2 c)
    rw [zup_self, hs] at e
    rw [hv] at hP1
    unfold zputI
    rw [← e]; exact hP1) hS1)
theorem z_last (hx : zOk E x cc own nL R) {c n : Nat} {i : Int32} {v : Int64} (hc : c < 100) (hs : ∀ h, zsh E.2.2.1 E.2.2.2 (M.1 c) h c = .inl (E.2.2.1 1, n, .inr (.inl h))) (hin : vp_in i n) (d : decode cc pc = .ok (.lastore, 1)) (kk : zJ E x (pc + 1) lv st (zputJ M c i.toNatClampNeg v)) : zJ E x pc lv (.long v :: .int i :: .ref (E.2.2.2 c) :: st) M := fun H locs ls hl2 hP hS =>
  va_last hx.1 hx.2.1 hx.2.2.2.2.2.1.1 hP (zwd_D E M hx.2.2.2.2.2.2.1) hS c 1 ((zwd_get E M hc).trans (by rw [hs])) rfl hin d (fun H1 locs1 hP1 _ hS1 => kk H1 locs1 ls hl2 (by
    have e := zwd_set E M hc (M.1 c) (vp_updL (M.2 c) i.toNatClampNeg v)
    rw [zup_self, hs] at e
    unfold zputJ
    rw [← e]; exact hP1) hS1)
theorem z_aald (hx : zOk E x cc own nL R) {c n b t0 : Nat} {cA : ClassId} {ty : FieldType} {f : Nat → Option Nat} {i : Int32} (hc : c < 100) (hs : zsh E.2.2.1 E.2.2.2 (M.1 c) (M.2 c) c = .inl (cA, n, .inr (.inr (.inr (.inr f))))) (ht : (ztys E)[t0]? = some (cA, ty)) (hr : ty.isReference = true) (hin : vp_in i n) (hf : f i.toNatClampNeg = some b) (d : decode cc pc = .ok (.aaload, 1)) (kk : zJ E x (pc + 1) lv (.ref b :: st) M) : zJ E x pc lv (.int i :: .ref (E.2.2.2 c) :: st) M := fun H locs ls hl2 hP hS => by
  have hlt : i.toNatClampNeg < n := Nat.not_le.mp fun q => hin (Or.inr q)
  have ha : (zwd E M)[c]? = some (E.2.2.2 c, .inl (cA, n, .inr (.inr (.inr (.inr f))))) := (zwd_get E M hc).trans (by rw [hs])
  exact W.aald (v := .ref b) (ty := ty) hx.1 hx.2.1 (hP c _ ha) ((hx.2.2.2.2.2.1.1.2 t0 _ ht).1 n (fun j => va_rf (f j))) hr (fun q => by cases q) (by show ¬ (i < 0 ∨ (arrV _ _ _).slots.size ≤ _); rw [arrV_size]; exact hin) (by show (arrV _ _ _).slots[_]? = _; rw [arrV_read _ _ hlt, hf]; rfl) rfl rfl d (kk H locs ls hl2 hP hS)
theorem z_copyi (hx : zOk E x cc own nL R) {c0 c1 n0 n1 index : Nat} {sp dp n : Int32} (hc0 : c0 < 100) (hc1 : c1 < 100) (hs0 : zsh E.2.2.1 E.2.2.2 (M.1 c0) (M.2 c0) c0 = .inl (E.2.2.1 0, n0, .inl (M.1 c0))) (hs1 : ∀ g, zsh E.2.2.1 E.2.2.2 g (M.2 c1) c1 = .inl (E.2.2.1 0, n1, .inl g)) (hl : Cond.methodLink own index arraycopyName ∈ zU) (h1 : ¬ sp < 0) (h2 : ¬ dp < 0) (h3 : ¬ n < 0) (h4 : sp.toNatClampNeg + n.toNatClampNeg ≤ n0) (h5 : dp.toNatClampNeg + n.toNatClampNeg ≤ n1) (hfr : 1 ≤ R.frames) (hlo : (st.map fun v => v.category).sum + (nativeFrameWords "java/lang/System" "arraycopy" 5 + 11) ≤ R.locals) (d : decode cc pc = .ok (.invokestatic index, 3)) (kk : zJ E x (pc + 3) lv st (zsetI M c1 (va_cpy (M.1 c0) (M.1 c1) sp.toNatClampNeg dp.toNatClampNeg n.toNatClampNeg))) : zJ E x pc lv (.int n :: .int dp :: .ref (E.2.2.2 c1) :: .int sp :: .ref (E.2.2.2 c0) :: st) M := fun H locs ls hl2 hP hS =>
  va_copyi (ty := .int) hx.1 hx.2.1 hl2.1.symm hx.2.2.2.1 (hx.2.2.2.2.1 _ hl) (hx.2.2.2.2.1 _ zcp_nat) (hx.2.2.2.2.1 _ zcp_st) (hx.2.2.2.2.1 _ zcp_in) hx.2.2.2.2.2.1.1 hP (zwd_D E M hx.2.2.2.2.2.2.1) hS c0 c1 0 0 ((zwd_get E M hc0).trans (by rw [hs0])) ((zwd_get E M hc1).trans (by rw [hs1])) rfl rfl rfl h1 h2 h3 h4 h5 (fun _ _ => rfl) (by rw [hx.2.2.2.2.2.2.2]; exact hfr) (by rw [hx.2.2.2.2.2.2.2]; exact hlo) d (fun H1 locs1 hP1 _ hS1 => kk H1 locs1 ls hl2 (by
    have e := zwd_set E M hc1 (va_cpy (M.1 c0) (M.1 c1) sp.toNatClampNeg dp.toNatClampNeg n.toNatClampNeg) (M.2 c1)
    rw [zup_self, hs1] at e
    unfold zsetI
    rw [← e]; exact hP1) hS1)
theorem z_copyl (hx : zOk E x cc own nL R) {c0 c1 n0 n1 index : Nat} {sp dp n : Int32} (hc0 : c0 < 100) (hc1 : c1 < 100) (hs0 : zsh E.2.2.1 E.2.2.2 (M.1 c0) (M.2 c0) c0 = .inl (E.2.2.1 1, n0, .inr (.inl (M.2 c0)))) (hs1 : ∀ h, zsh E.2.2.1 E.2.2.2 (M.1 c1) h c1 = .inl (E.2.2.1 1, n1, .inr (.inl h))) (hl : Cond.methodLink own index arraycopyName ∈ zU) (h1 : ¬ sp < 0) (h2 : ¬ dp < 0) (h3 : ¬ n < 0) (h4 : sp.toNatClampNeg + n.toNatClampNeg ≤ n0) (h5 : dp.toNatClampNeg + n.toNatClampNeg ≤ n1) (hfr : 1 ≤ R.frames) (hlo : (st.map fun v => v.category).sum + (nativeFrameWords "java/lang/System" "arraycopy" 5 + 11) ≤ R.locals) (d : decode cc pc = .ok (.invokestatic index, 3)) (kk : zJ E x (pc + 3) lv st (zsetJ M c1 (va_cpy (M.2 c0) (M.2 c1) sp.toNatClampNeg dp.toNatClampNeg n.toNatClampNeg))) : zJ E x pc lv (.int n :: .int dp :: .ref (E.2.2.2 c1) :: .int sp :: .ref (E.2.2.2 c0) :: st) M := fun H locs ls hl2 hP hS =>
  va_copyl (ty := .long) hx.1 hx.2.1 hl2.1.symm hx.2.2.2.1 (hx.2.2.2.2.1 _ hl) (hx.2.2.2.2.1 _ zcp_nat) (hx.2.2.2.2.1 _ zcp_st) (hx.2.2.2.2.1 _ zcp_in) hx.2.2.2.2.2.1.1 hP (zwd_D E M hx.2.2.2.2.2.2.1) hS c0 c1 1 1 ((zwd_get E M hc0).trans (by rw [hs0])) ((zwd_get E M hc1).trans (by rw [hs1])) rfl rfl rfl h1 h2 h3 h4 h5 (fun _ _ => rfl) (by rw [hx.2.2.2.2.2.2.2]; exact hfr) (by rw [hx.2.2.2.2.2.2.2]; exact hlo) d (fun H1 locs1 hP1 _ hS1 => kk H1 locs1 ls hl2 (by
    have e := zwd_set E M hc1 (M.1 c1) (va_cpy (M.2 c0) (M.2 c1) sp.toNatClampNeg dp.toNatClampNeg n.toNatClampNeg)
    rw [zup_self, hs1] at e
    unfold zsetJ
    rw [← e]; exact hP1) hS1)
theorem z_min (hx : zOk E x cc own nL R) {index : Nat} {a b : Int32} (hl : Cond.methodLink own index Lib.Math.min.name ∈ zU) (hfr : 1 ≤ R.frames) (hlo : (st.map fun v => v.category).sum + 13 ≤ R.locals) (d : decode cc pc = .ok (.invokestatic index, 3)) (kk : zJ E x (pc + 3) lv (.int (if b < a then b else a) :: st) M) : zJ E x pc lv (.int b :: .int a :: st) M := fun H locs ls hl2 hP hS =>
  va_mmin hx.1 hx.2.1 hl2.1.symm hx.2.2.2.1 (hx.2.2.2.2.1 _ hl) (hx.2.2.2.2.1 _ zw_258) (hx.2.2.2.2.1 _ zw_46) (hx.2.2.2.2.1 _ zw_259) (by rw [hx.2.2.2.2.2.2.2]; exact hfr) (by rw [hx.2.2.2.2.2.2.2]; exact hlo) (Nat.zero_le _) (Nat.zero_le _) d (kk H locs ls hl2 hP hS)
theorem z_abs (hx : zOk E x cc own nL R) {index : Nat} {a : Int64} (hl : Cond.methodLink own index Lib.MathLoose.abs_long.x ∈ zU) (hfr : 1 ≤ R.frames) (hlo : (st.map fun v => v.category).sum + 13 ≤ R.locals) (d : decode cc pc = .ok (.invokestatic index, 3)) (kk : zJ E x (pc + 3) lv (.long (if 0 < a then a else -a) :: st) M) : zJ E x pc lv (.long a :: st) M := fun H locs ls hl2 hP hS =>
  va_mabs_long hx.1 hx.2.1 hl2.1.symm hx.2.2.2.1 (hx.2.2.2.2.1 _ hl) (hx.2.2.2.2.1 _ zw_417) (hx.2.2.2.2.1 _ zw_46) (hx.2.2.2.2.1 _ zw_418) (by rw [hx.2.2.2.2.2.2.2]; exact hfr) (by rw [hx.2.2.2.2.2.2.2]; exact hlo) (Nat.zero_le _) (Nat.zero_le _) d (kk H locs ls hl2 hP hS)
end ZJ
abbrev zQ (E : zE) (r : Option Value) (M2 : zM) : Array Value → State → Outcome → State → Prop := fun _ s0 oc t => (oc = .returned r ∧ va_P E.2.1 vwCl (zwd E M2) t.heap) ∧ va_F (zA E) s0 t
/-- a contract: called with av in memory M the method answers r, and the memory is M2 -/
def zK (E : zE) (y : MethodName) (cd : Cond) (rm : Room) (av : List Value) (M : zM) (r : Option Value) (M2 : zM) : Prop :=
  Met E.1 y (cd :: zU) rm (va_Pc av (fun U => va_P E.2.1 vwCl (zwd E M) U.heap ∧ zG E U)) (zQ E r M2) 0 0 (zA E)
theorem zBlind (E : zE) (M : zM) (av : List Value) : FrameBlind (va_Pc av (fun U => va_P E.2.1 vwCl (zwd E M) U.heap ∧ zG E U)) := fun a U g mk q => by
  obtain ⟨q0, qP, qK, qN⟩ := q
  exact ⟨q0, qP, va_K.moved (u := U) (U := U.calling g mk a) (Vm.Alike.refl U.vm) qK, va_Nw.same (u := U) (U := U.calling g mk a) rfl rfl qN⟩
theorem zG.warm {E : zE} {s U : State} (h : zG E s) (hW : s.WarmedH U.vm) : zG E U := ⟨va_K.moved hW.alike h.1, va_Nw.warmM hW h.2⟩
section ZC
variable {E : zE} {x : zX} {cc : ByteArray} {own : String} {nL : Nat} {R : Room} {pc : Nat} {lv : List (Nat × Value)} {st : List Value} {M M2 : zM}
theorem z_run {H : Heap} {locs : List Loc} {ls : Array Slot} {st0 : List Value} {r : Option Value} (hr : va_Run x.1 E.1 x.2.1 x.2.2.1 x.2.2.2.1 x.2.2.2.2.1 x.2.2.2.2.2.1 x.2.2.2.2.2.2.1 x.2.2.2.2.2.2.2.1 x.2.2.2.2.2.2.2.2.1 H locs 0 0 0 0 (F0 x.2.2.2.2.1 pc ls st0) st (fun s0 oc t => (oc = .returned r ∧ va_P E.2.1 vwCl (zwd E M2) t.heap) ∧ va_F (zA E) s0 t) (zA E)) (hl : lv_has ls x.2.2.2.2.2.2.2.2.1.maxLocals lv) (hS : va_S (zA E) x.2.2.2.1.heap H locs) (kk : zJ E x (pc + 3) lv (r.toList ++ st) M2) : W x.1 E.1 x.2.1 x.2.2.1 x.2.2.2.1 x.2.2.2.2.1 x.2.2.2.2.2.1 x.2.2.2.2.2.2.1 x.2.2.2.2.2.2.2.1 x.2.2.2.2.2.2.2.2.1 H locs 0 0 x.2.2.2.2.2.2.2.2.2 (F0 x.2.2.2.2.1 pc ls st0) := by
  intro T hT X
  obtain ⟨v, st₀, t, T', L, h0, X', hL, e1, e2, ⟨⟨hv, hb⟩, hz, hk⟩, stp⟩ := hr T hT X
  cases hv
  rw [h0] at hz hk
  obtain ⟨t2, a1, b1⟩ := kk T'.heap (locs ++ L) ls hl (by rw [e1]; exact hb)
    ⟨Nat.le_trans hS.1 (by rw [e1]; exact hz), fun q h1 h2 => by rw [e1, hk q (Nat.lt_of_lt_of_le h1 hS.1) h2]; exact hS.2.1 q h1 h2, fun q hq => by
      rcases List.mem_append.mp hq with h | h
      · exact hS.2.2 q h
      · exact hL q h⟩ T' rfl X'
  exact ⟨t2, stp t2 a1, b1⟩
theorem zU_cons {cd : Cond} (hc : cd ∈ zU) : GoodIn zU (cd :: zU) := fun w hw => by
  rcases List.mem_cons.mp hw with rfl | h
  · exact ⟨hc, zU_good hc⟩
  · exact ⟨h, zU_good h⟩
theorem z_callV (hx : zOk E x cc own nL R) {y : MethodName} {bytes : ByteArray} {maxL index n c ci : Nat} {q : vw_C} {fs : List Value} {ret : Option FieldType} {rm : Room} {As stk : List Value} {r : Option Value} (hM : zK E y (.code y bytes maxL ret) rm (.ref (E.2.2.2 c) :: As) M r M2)
    (w1 : Cond.methodLink own index y ∈ zU) (w2 : Cond.instanceMethod y ∈ zU) (w3 : Cond.selects y.cls y y ∈ zU) (w4 : Cond.initialized y.cls ∈ zU) (w5 : Cond.code y bytes maxL ret ∈ zU) (hrm : rm.cells = 0 ∧ rm.slots = 0) (hd : (y.cls ≠ "java/lang/invoke/MethodHandle" ∧ y.cls ≠ "java/lang/invoke/VarHandle") ∧ (parseMethodDescriptor y.desc).map (fun d => d.parameters.length) = some n) (hR : rm.frames + 1 ≤ R.frames ∧ 8 + (maxL + 11) + rm.locals ≤ R.locals)
    (hc : c < 100) (hs : zsh E.2.2.1 E.2.2.2 (M.1 c) (M.2 c) c = .inr (ci, fs)) (hci : vwCl[ci]? = some q) (hq : q.1 = y.cls) (hn : As.length = n) (hstk : stk = As.reverse ++ .ref (E.2.2.2 c) :: st) (hW : (st.map fun v => v.category).sum ≤ 8) (d : decode cc pc = .ok (.invokevirtual index, 3)) (kk : zJ E x (pc + 3) lv (r.toList ++ st) M2) : zJ E x pc lv stk M := fun H locs ls hl2 hP hS => by
  subst hstk
  refine z_run (va_runV (bytes := bytes) (maxL := maxL) (ret := ret) (C := y.cls) (As := As) (rest := st) ⟨hx.1, hx.2.1, hx.2.2.1, hx.2.2.2.1, hx.2.2.2.2.1⟩ hM ?_ ⟨zBlind E M _, ?_, fun U hU hWm => ⟨rfl, by rw [hU]; exact hP, hx.2.2.2.2.2.1.warm hWm⟩⟩ rfl hn (by show ls.size = nL; rw [hl2.1, hx.2.2.1]) rfl (lv_room hW) d ⟨by show 0 ≤ _; exact Nat.zero_le _, by show 0 ≤ _; exact Nat.zero_le _⟩) hl2 hS kk
  · have hR' : rm.frames + 1 ≤ x.2.2.1.frames ∧ 8 + (maxL + 11) + rm.locals ≤ x.2.2.1.locals := by rw [hx.2.2.2.2.2.2.2]; exact hR
    exact ⟨callB_of n hx.2.2.2.2.1 (zU_cons w5) rfl hrm.1 hrm.2 (hx.2.2.2.2.1 _ w4) (hx.2.2.2.2.1 _ w1) ⟨hd.1.1, hd.1.2, hd.2⟩ hR', hx.2.2.2.2.1 _ w2, hx.2.2.2.2.1 _ w3⟩
  · rw [← hq]
    exact va_recv hx.2.2.2.2.2.1.1 hP hci ((zwd_get E M hc).trans (by rw [hs]))
theorem z_callS (hx : zOk E x cc own nL R) {y : MethodName} {bytes : ByteArray} {maxL index n : Nat} {ret : Option FieldType} {rm : Room} {As stk : List Value} {r : Option Value} (hM : zK E y (.code y bytes maxL ret) rm As M r M2)
    (w1 : Cond.methodLink own index y ∈ zU) (w2 : Cond.static y ∈ zU) (w4 : Cond.initialized y.cls ∈ zU) (w5 : Cond.code y bytes maxL ret ∈ zU) (hrm : rm.cells = 0 ∧ rm.slots = 0) (hd : (y.cls ≠ "java/lang/invoke/MethodHandle" ∧ y.cls ≠ "java/lang/invoke/VarHandle") ∧ (parseMethodDescriptor y.desc).map (fun d => d.parameters.length) = some n) (hR : rm.frames + 1 ≤ R.frames ∧ 8 + (maxL + 11) + rm.locals ≤ R.locals)
    (hn : As.length = n) (hstk : stk = As.reverse ++ st) (hW : (st.map fun v => v.category).sum ≤ 8) (d : decode cc pc = .ok (.invokestatic index, 3)) (kk : zJ E x (pc + 3) lv (r.toList ++ st) M2) : zJ E x pc lv stk M := fun H locs ls hl2 hP hS => by
  subst hstk
  refine z_run (va_runS (bytes := bytes) (maxL := maxL) (ret := ret) (As := As) (rest := st) ⟨hx.1, hx.2.1, hx.2.2.1, hx.2.2.2.1, hx.2.2.2.2.1⟩ hM ?_ ⟨zBlind E M _, fun U hU hWm => ⟨rfl, by rw [hU]; exact hP, hx.2.2.2.2.2.1.warm hWm⟩⟩ rfl hn (by show ls.size = nL; rw [hl2.1, hx.2.2.1]) rfl (lv_room hW) d ⟨by show 0 ≤ _; exact Nat.zero_le _, by show 0 ≤ _; exact Nat.zero_le _⟩) hl2 hS kk
  have hR' : rm.frames + 1 ≤ x.2.2.1.frames ∧ 8 + (maxL + 11) + rm.locals ≤ x.2.2.1.locals := by rw [hx.2.2.2.2.2.2.2]; exact hR
  exact ⟨callB_of n hx.2.2.2.2.1 (zU_cons w5) rfl hrm.1 hrm.2 (hx.2.2.2.2.1 _ w4) (hx.2.2.2.2.1 _ w1) ⟨hd.1.1, hd.1.2, hd.2⟩ hR', hx.2.2.2.2.1 _ w2⟩
theorem z_callN (hx : zOk E x cc RX1 nL R) {bytes : ByteArray} {maxL : Nat} {ret : Option FieldType} {rm : Room} {As stk : List Value} {r : Option Value} (hM : zK E yX5_isLess (.code yX5_isLess bytes maxL ret) rm As M r M2)
    (w2 : Cond.static yX5_isLess ∈ zU) (w4 : Cond.initialized yX5_isLess.cls ∈ zU) (w5 : Cond.code yX5_isLess bytes maxL ret ∈ zU) (hrm : rm.cells = 0 ∧ rm.slots = 0) (hR : rm.frames + 1 ≤ R.frames ∧ 8 + (maxL + 11) + rm.locals ≤ R.locals)
    (hn : As.length = 4) (hstk : stk = As.reverse ++ st) (hW : (st.map fun v => v.category).sum ≤ 8) (d : decode cc pc = .ok (.invokestatic 95, 3)) (kk : zJ E x (pc + 3) lv (r.toList ++ st) M2) : zJ E x pc lv stk M := fun H locs ls hl2 hP hS => by
  subst hstk
  have hR' : rm.frames + 1 ≤ x.2.2.1.frames ∧ 8 + (maxL + 11) + rm.locals ≤ x.2.2.1.locals := by rw [hx.2.2.2.2.2.2.2]; exact hR
  exact z_run (va_runSN (As := As) (rest := st) ⟨hx.1, hx.2.1, hx.2.2.1, hx.2.2.2.1, hx.2.2.2.2.1⟩ hM ⟨va_cnB 4 hx.2.2.2.2.1 (zU_cons w5) rfl hrm.1 hrm.2 hx.2.2.2.2.2.1.2 (hx.2.2.2.2.1 _ w4) ⟨by decide, by decide, by decide +kernel⟩ hR', hx.2.2.2.2.1 _ w2, trivial⟩ ⟨zBlind E M _, fun U hU hWm => ⟨rfl, by rw [hU]; exact hP, hx.2.2.2.2.2.1.warm hWm⟩⟩ rfl hn (by show ls.size = nL; rw [hl2.1, hx.2.2.1]) rfl (lv_room hW) d ⟨by show 0 ≤ _; exact Nat.zero_le _, by show 0 ≤ _; exact Nat.zero_le _⟩) hl2 hS kk
end ZC
/-- a body walked in the judgement gives the contract -/
theorem zK_of (E : zE) (hI : zI E) {y : MethodName} {cc : ByteArray} {nL : Nat} {ret : Option FieldType} {rm : Room} {av : List Value} {M : zM} {r : Option Value} {M2 : zM} (hy : plainName y.cls = true) (hlen : (lg_sl av).length ≤ nL)
    (body : ∀ x : zX, zOk E x cc y.cls nL rm → (∀ (pc : Nat) (lv : List (Nat × Value)) (v : Int32), ret = some .int → r = some (.int v) → decode cc pc = .ok (.ireturn, 1) → zJ E x pc lv [.int v] M2) → (∀ (pc : Nat) (lv : List (Nat × Value)) (v : Int32), ret = some .boolean → (v = 0 ∨ v = 1) → r = some (.int v) → decode cc pc = .ok (.ireturn, 1) → zJ E x pc lv [.int v] M2) → (∀ (pc : Nat) (lv : List (Nat × Value)) (v : Int64), ret = some .long → r = some (.long v) → decode cc pc = .ok (.lreturn, 1) → zJ E x pc lv [.long v] M2) → (∀ (pc : Nat) (lv : List (Nat × Value)), ret = none → r = none → decode cc pc = .ok (.return_, 1) → zJ E x pc lv [] M2) → zJ E x 0 (lv_args 0 av) [] M) : zK E y (.code y cc nL ret) rm av M r M2 := by
  refine Met.ofW (cc := cc) (maxL := nL) (ret := ret) hy rfl ?_
  intro p e s m args below meth c s₁ B hml hv
  obtain ⟨rfl, hP, hG⟩ := hv
  have hts := atoms_spec (ws := Cond.code y cc nL ret :: zU) B.pre
  have hlocks := B.notSynchronized
  have hr := B.returns
  have hl := lv_entry av (n := nL) hlen
  rw [lg_entry_eq]
  have key := body (p, e, rm, s, m, av.toArray, below, meth, c, MQ below (zQ E r M2) av.toArray s 0 0 (zA E)) ⟨B.exec, B.bytes, hml, findClass_of_methodNamed B.named, fun w hw => hts w (List.mem_cons_of_mem _ hw), hG, hI, rfl⟩
    (fun pc lv v h1 h2 d H locs ls _ hP hS => W.iret (Qc := zQ E r M2) (free := zA E) (p := p) (l := E.1) (e := e) (R := rm) (s := s) (m := m) (args := av.toArray) (below := below) (meth := meth) (c := c) (cells := 0) (slots := 0) B.exec B.bytes (hr.trans h1) (fun t ht hW => ⟨⟨by rw [h2], by rw [ht]; exact hP⟩, hS.F ht⟩) hS.2.2 d)
    (fun pc lv v h1 hv h2 d H locs ls _ hP hS => W.zret (Qc := zQ E r M2) (free := zA E) (p := p) (l := E.1) (e := e) (R := rm) (s := s) (m := m) (args := av.toArray) (below := below) (meth := meth) (c := c) (cells := 0) (slots := 0) B.exec B.bytes (hr.trans h1) (by rcases hv with e | e <;> rw [e] <;> rfl) (fun t ht hW => ⟨⟨by rw [h2], by rw [ht]; exact hP⟩, hS.F ht⟩) hS.2.2 d)
    (fun pc lv v h1 h2 d H locs ls _ hP hS => W.lret (Qc := zQ E r M2) (free := zA E) (p := p) (l := E.1) (e := e) (R := rm) (s := s) (m := m) (args := av.toArray) (below := below) (meth := meth) (c := c) (cells := 0) (slots := 0) B.exec B.bytes (hr.trans h1) (fun t ht hW => ⟨⟨by rw [h2], by rw [ht]; exact hP⟩, hS.F ht⟩) hS.2.2 d)
    (fun pc lv h1 h2 d H locs ls _ hP hS => W.vret (Qc := zQ E r M2) (free := zA E) (p := p) (l := E.1) (e := e) (R := rm) (s := s) (m := m) (args := av.toArray) (below := below) (meth := meth) (c := c) (cells := 0) (slots := 0) B.exec B.bytes (hr.trans h1) (fun t ht hW => ⟨⟨by rw [h2], by rw [ht]; exact hP⟩, hS.F ht⟩) hS.2.2 d)
  exact key s.heap [] _ (by show lv_has _ c.maxLocals _; rw [hml]; exact hl) hP va_S.rf
end
