section
def lw_okq (q : MethodName × Nat) : Prop := (q.1.cls ≠ "java/lang/invoke/MethodHandle" ∧ q.1.cls ≠ "java/lang/invoke/VarHandle") ∧ Cond.instantiable q.1.cls q.2 ∈ tables_1 ∧ Cond.privateMethod q.1 ∈ tables_1 ∧ Cond.instanceMethod q.1 ∈ tables_1
theorem lw_p0 : lw_okq (⟨"BalanceRoom$Text", "fits", "(I)Z"⟩, 2) := ⟨⟨by decide +kernel, by decide +kernel⟩, List.mem_of_getElem? (i := 20) (by decide +kernel), List.mem_of_getElem? (i := 181) (by decide +kernel), List.mem_of_getElem? (i := 182) (by decide +kernel)⟩
theorem lw_p1 : lw_okq (⟨"BalanceRoom$Text", "figureAt", "(I)I"⟩, 2) := ⟨⟨by decide +kernel, by decide +kernel⟩, List.mem_of_getElem? (i := 20) (by decide +kernel), List.mem_of_getElem? (i := 212) (by decide +kernel), List.mem_of_getElem? (i := 213) (by decide +kernel)⟩
theorem lw_p2 : lw_okq (⟨"BalanceRoom$Text", "startOf", "(I)I"⟩, 2) := ⟨⟨by decide +kernel, by decide +kernel⟩, List.mem_of_getElem? (i := 20) (by decide +kernel), List.mem_of_getElem? (i := 227) (by decide +kernel), List.mem_of_getElem? (i := 228) (by decide +kernel)⟩
theorem lw_p3 : lw_okq (⟨"BalanceRoom$Ranks", "extended", "(ILBalanceRoom$Room;IZ)I"⟩, 3) := ⟨⟨by decide +kernel, by decide +kernel⟩, List.mem_of_getElem? (i := 119) (by decide +kernel), List.mem_of_getElem? (i := 316) (by decide +kernel), List.mem_of_getElem? (i := 317) (by decide +kernel)⟩
theorem lw_p4 : lw_okq (⟨"BalanceRoom$Fit", "put", "(LBalanceRoom$Room;II)V"⟩, 7) := ⟨⟨by decide +kernel, by decide +kernel⟩, List.mem_of_getElem? (i := 86) (by decide +kernel), List.mem_of_getElem? (i := 353) (by decide +kernel), List.mem_of_getElem? (i := 354) (by decide +kernel)⟩
theorem lw_p5 : lw_okq (⟨"BalanceRoom$Fit", "sweepAll", "(Z)Z"⟩, 7) := ⟨⟨by decide +kernel, by decide +kernel⟩, List.mem_of_getElem? (i := 86) (by decide +kernel), List.mem_of_getElem? (i := 358) (by decide +kernel), List.mem_of_getElem? (i := 359) (by decide +kernel)⟩
theorem lw_p6 : lw_okq (⟨"BalanceRoom$Fit", "sweep", "(II)V"⟩, 7) := ⟨⟨by decide +kernel, by decide +kernel⟩, List.mem_of_getElem? (i := 86) (by decide +kernel), List.mem_of_getElem? (i := 363) (by decide +kernel), List.mem_of_getElem? (i := 364) (by decide +kernel)⟩
theorem lw_p7 : lw_okq (⟨"BalanceRoom$Fit", "sweepRow", "(IIJ)V"⟩, 7) := ⟨⟨by decide +kernel, by decide +kernel⟩, List.mem_of_getElem? (i := 86) (by decide +kernel), List.mem_of_getElem? (i := 367) (by decide +kernel), List.mem_of_getElem? (i := 368) (by decide +kernel)⟩
theorem lw_p8 : lw_okq (⟨"BalanceRoom$Fit", "solvesWithout", "(LBalanceRoom$Room;I)Z"⟩, 7) := ⟨⟨by decide +kernel, by decide +kernel⟩, List.mem_of_getElem? (i := 86) (by decide +kernel), List.mem_of_getElem? (i := 450) (by decide +kernel), List.mem_of_getElem? (i := 451) (by decide +kernel)⟩
theorem lw_p9 : lw_okq (⟨"BalanceRoom", "holds", "(I)Z"⟩, 9) := ⟨⟨by decide +kernel, by decide +kernel⟩, List.mem_of_getElem? (i := 12) (by decide +kernel), List.mem_of_getElem? (i := 469) (by decide +kernel), List.mem_of_getElem? (i := 470) (by decide +kernel)⟩
theorem lw_p10 : lw_okq (⟨"BalanceRoom", "exchanged", "(II)Z"⟩, 9) := ⟨⟨by decide +kernel, by decide +kernel⟩, List.mem_of_getElem? (i := 12) (by decide +kernel), List.mem_of_getElem? (i := 473) (by decide +kernel), List.mem_of_getElem? (i := 474) (by decide +kernel)⟩
theorem lw_p11 : lw_okq (⟨"BalanceRoom", "removed", "(I)Z"⟩, 9) := ⟨⟨by decide +kernel, by decide +kernel⟩, List.mem_of_getElem? (i := 12) (by decide +kernel), List.mem_of_getElem? (i := 477) (by decide +kernel), List.mem_of_getElem? (i := 478) (by decide +kernel)⟩
theorem lw_p12 : lw_okq (⟨"BalanceRoom", "masterSet", "(I)Z"⟩, 9) := ⟨⟨by decide +kernel, by decide +kernel⟩, List.mem_of_getElem? (i := 12) (by decide +kernel), List.mem_of_getElem? (i := 481) (by decide +kernel), List.mem_of_getElem? (i := 482) (by decide +kernel)⟩
theorem lw_p13 : lw_okq (⟨"BalanceRoom", "drawReadings", "(I)V"⟩, 9) := ⟨⟨by decide +kernel, by decide +kernel⟩, List.mem_of_getElem? (i := 12) (by decide +kernel), List.mem_of_getElem? (i := 517) (by decide +kernel), List.mem_of_getElem? (i := 518) (by decide +kernel)⟩
theorem lw_p14 : lw_okq (⟨"BalanceRoomModel", "readRoom", "()I"⟩, 24) := ⟨⟨by decide +kernel, by decide +kernel⟩, List.mem_of_getElem? (i := 533) (by decide +kernel), List.mem_of_getElem? (i := 628) (by decide +kernel), List.mem_of_getElem? (i := 629) (by decide +kernel)⟩
theorem lw_p15 : lw_okq (⟨"BalanceRoomModel", "readHead", "()Z"⟩, 24) := ⟨⟨by decide +kernel, by decide +kernel⟩, List.mem_of_getElem? (i := 533) (by decide +kernel), List.mem_of_getElem? (i := 632) (by decide +kernel), List.mem_of_getElem? (i := 633) (by decide +kernel)⟩
def lw_privs_1 : List (MethodName × Nat) := [(⟨"BalanceRoom$Text", "fits", "(I)Z"⟩, 2), (⟨"BalanceRoom$Text", "figureAt", "(I)I"⟩, 2), (⟨"BalanceRoom$Text", "startOf", "(I)I"⟩, 2), (⟨"BalanceRoom$Ranks", "extended", "(ILBalanceRoom$Room;IZ)I"⟩, 3), (⟨"BalanceRoom$Fit", "put", "(LBalanceRoom$Room;II)V"⟩, 7), (⟨"BalanceRoom$Fit", "sweepAll", "(Z)Z"⟩, 7), (⟨"BalanceRoom$Fit", "sweep", "(II)V"⟩, 7), (⟨"BalanceRoom$Fit", "sweepRow", "(IIJ)V"⟩, 7), (⟨"BalanceRoom$Fit", "solvesWithout", "(LBalanceRoom$Room;I)Z"⟩, 7), (⟨"BalanceRoom", "holds", "(I)Z"⟩, 9), (⟨"BalanceRoom", "exchanged", "(II)Z"⟩, 9), (⟨"BalanceRoom", "removed", "(I)Z"⟩, 9), (⟨"BalanceRoom", "masterSet", "(I)Z"⟩, 9), (⟨"BalanceRoom", "drawReadings", "(I)V"⟩, 9), (⟨"BalanceRoomModel", "readRoom", "()I"⟩, 24), (⟨"BalanceRoomModel", "readHead", "()Z"⟩, 24)]
theorem lw_r1 : ∀ q ∈ lw_privs_1, lw_okq q := List.forall_mem_cons.mpr ⟨lw_p0, List.forall_mem_cons.mpr ⟨lw_p1, List.forall_mem_cons.mpr ⟨lw_p2, List.forall_mem_cons.mpr ⟨lw_p3, List.forall_mem_cons.mpr ⟨lw_p4, List.forall_mem_cons.mpr ⟨lw_p5, List.forall_mem_cons.mpr ⟨lw_p6, List.forall_mem_cons.mpr ⟨lw_p7, List.forall_mem_cons.mpr ⟨lw_p8, List.forall_mem_cons.mpr ⟨lw_p9, List.forall_mem_cons.mpr ⟨lw_p10, List.forall_mem_cons.mpr ⟨lw_p11, List.forall_mem_cons.mpr ⟨lw_p12, List.forall_mem_cons.mpr ⟨lw_p13, List.forall_mem_cons.mpr ⟨lw_p14, List.forall_mem_cons.mpr ⟨lw_p15, fun _ h => absurd h List.not_mem_nil⟩⟩⟩⟩⟩⟩⟩⟩⟩⟩⟩⟩⟩⟩⟩⟩
theorem lw_p16 : lw_okq (⟨"BalanceRoomModel", "figure", "(II)I"⟩, 24) := ⟨⟨by decide +kernel, by decide +kernel⟩, List.mem_of_getElem? (i := 533) (by decide +kernel), List.mem_of_getElem? (i := 636) (by decide +kernel), List.mem_of_getElem? (i := 637) (by decide +kernel)⟩
theorem lw_p17 : lw_okq (⟨"BalanceRoomModel", "readWeighing", "()Z"⟩, 24) := ⟨⟨by decide +kernel, by decide +kernel⟩, List.mem_of_getElem? (i := 533) (by decide +kernel), List.mem_of_getElem? (i := 640) (by decide +kernel), List.mem_of_getElem? (i := 641) (by decide +kernel)⟩
theorem lw_p18 : lw_okq (⟨"BalanceRoomModel", "sign", "(Z)I"⟩, 24) := ⟨⟨by decide +kernel, by decide +kernel⟩, List.mem_of_getElem? (i := 533) (by decide +kernel), List.mem_of_getElem? (i := 644) (by decide +kernel), List.mem_of_getElem? (i := 645) (by decide +kernel)⟩
theorem lw_p19 : lw_okq (⟨"BalanceRoomModel", "noWeighing", "(I)Z"⟩, 24) := ⟨⟨by decide +kernel, by decide +kernel⟩, List.mem_of_getElem? (i := 533) (by decide +kernel), List.mem_of_getElem? (i := 659) (by decide +kernel), List.mem_of_getElem? (i := 660) (by decide +kernel)⟩
theorem lw_p20 : lw_okq (⟨"BalanceRoomModel", "isCode", "(I)Z"⟩, 24) := ⟨⟨by decide +kernel, by decide +kernel⟩, List.mem_of_getElem? (i := 533) (by decide +kernel), List.mem_of_getElem? (i := 671) (by decide +kernel), List.mem_of_getElem? (i := 672) (by decide +kernel)⟩
theorem lw_p21 : lw_okq (⟨"BalanceRoomModel", "note", "()V"⟩, 24) := ⟨⟨by decide +kernel, by decide +kernel⟩, List.mem_of_getElem? (i := 533) (by decide +kernel), List.mem_of_getElem? (i := 680) (by decide +kernel), List.mem_of_getElem? (i := 681) (by decide +kernel)⟩
theorem lw_p22 : lw_okq (⟨"BalanceRoomModel", "rankOf", "([IIZ)I"⟩, 24) := ⟨⟨by decide +kernel, by decide +kernel⟩, List.mem_of_getElem? (i := 533) (by decide +kernel), List.mem_of_getElem? (i := 718) (by decide +kernel), List.mem_of_getElem? (i := 719) (by decide +kernel)⟩
theorem lw_p23 : lw_okq (⟨"BalanceRoomModel", "layGram", "([IIZ)V"⟩, 24) := ⟨⟨by decide +kernel, by decide +kernel⟩, List.mem_of_getElem? (i := 533) (by decide +kernel), List.mem_of_getElem? (i := 722) (by decide +kernel), List.mem_of_getElem? (i := 723) (by decide +kernel)⟩
theorem lw_p24 : lw_okq (⟨"BalanceRoomModel", "layColumns", "([IIZ)V"⟩, 24) := ⟨⟨by decide +kernel, by decide +kernel⟩, List.mem_of_getElem? (i := 533) (by decide +kernel), List.mem_of_getElem? (i := 729) (by decide +kernel), List.mem_of_getElem? (i := 730) (by decide +kernel)⟩
theorem lw_p25 : lw_okq (⟨"BalanceRoomModel", "panOf", "(II)I"⟩, 24) := ⟨⟨by decide +kernel, by decide +kernel⟩, List.mem_of_getElem? (i := 533) (by decide +kernel), List.mem_of_getElem? (i := 733) (by decide +kernel), List.mem_of_getElem? (i := 734) (by decide +kernel)⟩
theorem lw_p26 : lw_okq (⟨"BalanceRoomModel", "columns", "()I"⟩, 24) := ⟨⟨by decide +kernel, by decide +kernel⟩, List.mem_of_getElem? (i := 533) (by decide +kernel), List.mem_of_getElem? (i := 740) (by decide +kernel), List.mem_of_getElem? (i := 741) (by decide +kernel)⟩
theorem lw_p27 : lw_okq (⟨"BalanceRoomModel", "minor", "(II)J"⟩, 24) := ⟨⟨by decide +kernel, by decide +kernel⟩, List.mem_of_getElem? (i := 533) (by decide +kernel), List.mem_of_getElem? (i := 747) (by decide +kernel), List.mem_of_getElem? (i := 748) (by decide +kernel)⟩
theorem lw_p28 : lw_okq (⟨"BalanceRoomModel", "determinant", "(I)J"⟩, 24) := ⟨⟨by decide +kernel, by decide +kernel⟩, List.mem_of_getElem? (i := 533) (by decide +kernel), List.mem_of_getElem? (i := 751) (by decide +kernel), List.mem_of_getElem? (i := 752) (by decide +kernel)⟩
theorem lw_p29 : lw_okq (⟨"BalanceRoomModel", "noColumn", "(IZ)Z"⟩, 24) := ⟨⟨by decide +kernel, by decide +kernel⟩, List.mem_of_getElem? (i := 533) (by decide +kernel), List.mem_of_getElem? (i := 759) (by decide +kernel), List.mem_of_getElem? (i := 760) (by decide +kernel)⟩
theorem lw_p30 : lw_okq (⟨"BalanceRoomModel", "isLaid", "([IIZ)Z"⟩, 24) := ⟨⟨by decide +kernel, by decide +kernel⟩, List.mem_of_getElem? (i := 533) (by decide +kernel), List.mem_of_getElem? (i := 764) (by decide +kernel), List.mem_of_getElem? (i := 765) (by decide +kernel)⟩
theorem lw_p31 : lw_okq (⟨"BalanceRoomModel", "layFraction", "(JJ)V"⟩, 24) := ⟨⟨by decide +kernel, by decide +kernel⟩, List.mem_of_getElem? (i := 533) (by decide +kernel), List.mem_of_getElem? (i := 769) (by decide +kernel), List.mem_of_getElem? (i := 770) (by decide +kernel)⟩
def lw_privs_2 : List (MethodName × Nat) := [(⟨"BalanceRoomModel", "figure", "(II)I"⟩, 24), (⟨"BalanceRoomModel", "readWeighing", "()Z"⟩, 24), (⟨"BalanceRoomModel", "sign", "(Z)I"⟩, 24), (⟨"BalanceRoomModel", "noWeighing", "(I)Z"⟩, 24), (⟨"BalanceRoomModel", "isCode", "(I)Z"⟩, 24), (⟨"BalanceRoomModel", "note", "()V"⟩, 24), (⟨"BalanceRoomModel", "rankOf", "([IIZ)I"⟩, 24), (⟨"BalanceRoomModel", "layGram", "([IIZ)V"⟩, 24), (⟨"BalanceRoomModel", "layColumns", "([IIZ)V"⟩, 24), (⟨"BalanceRoomModel", "panOf", "(II)I"⟩, 24), (⟨"BalanceRoomModel", "columns", "()I"⟩, 24), (⟨"BalanceRoomModel", "minor", "(II)J"⟩, 24), (⟨"BalanceRoomModel", "determinant", "(I)J"⟩, 24), (⟨"BalanceRoomModel", "noColumn", "(IZ)Z"⟩, 24), (⟨"BalanceRoomModel", "isLaid", "([IIZ)Z"⟩, 24), (⟨"BalanceRoomModel", "layFraction", "(JJ)V"⟩, 24)]
theorem lw_r2 : ∀ q ∈ lw_privs_2, lw_okq q := List.forall_mem_cons.mpr ⟨lw_p16, List.forall_mem_cons.mpr ⟨lw_p17, List.forall_mem_cons.mpr ⟨lw_p18, List.forall_mem_cons.mpr ⟨lw_p19, List.forall_mem_cons.mpr ⟨lw_p20, List.forall_mem_cons.mpr ⟨lw_p21, List.forall_mem_cons.mpr ⟨lw_p22, List.forall_mem_cons.mpr ⟨lw_p23, List.forall_mem_cons.mpr ⟨lw_p24, List.forall_mem_cons.mpr ⟨lw_p25, List.forall_mem_cons.mpr ⟨lw_p26, List.forall_mem_cons.mpr ⟨lw_p27, List.forall_mem_cons.mpr ⟨lw_p28, List.forall_mem_cons.mpr ⟨lw_p29, List.forall_mem_cons.mpr ⟨lw_p30, List.forall_mem_cons.mpr ⟨lw_p31, fun _ h => absurd h List.not_mem_nil⟩⟩⟩⟩⟩⟩⟩⟩⟩⟩⟩⟩⟩⟩⟩⟩
theorem lw_p32 : lw_okq (⟨"BalanceRoomModel", "told", "(Z)J"⟩, 24) := ⟨⟨by decide +kernel, by decide +kernel⟩, List.mem_of_getElem? (i := 533) (by decide +kernel), List.mem_of_getElem? (i := 776) (by decide +kernel), List.mem_of_getElem? (i := 777) (by decide +kernel)⟩
theorem lw_p33 : lw_okq (⟨"BalanceRoomModel", "layTotal", "()V"⟩, 24) := ⟨⟨by decide +kernel, by decide +kernel⟩, List.mem_of_getElem? (i := 533) (by decide +kernel), List.mem_of_getElem? (i := 788) (by decide +kernel), List.mem_of_getElem? (i := 789) (by decide +kernel)⟩
theorem lw_p34 : lw_okq (⟨"BalanceRoomModel", "laySquares", "()V"⟩, 24) := ⟨⟨by decide +kernel, by decide +kernel⟩, List.mem_of_getElem? (i := 533) (by decide +kernel), List.mem_of_getElem? (i := 800) (by decide +kernel), List.mem_of_getElem? (i := 801) (by decide +kernel)⟩
theorem lw_p35 : lw_okq (⟨"BalanceRoomModel", "doubtfulOf", "([IZ)I"⟩, 24) := ⟨⟨by decide +kernel, by decide +kernel⟩, List.mem_of_getElem? (i := 533) (by decide +kernel), List.mem_of_getElem? (i := 816) (by decide +kernel), List.mem_of_getElem? (i := 817) (by decide +kernel)⟩
theorem lw_p36 : lw_okq (⟨"BalanceRoomModel", "does", "(III)Z"⟩, 24) := ⟨⟨by decide +kernel, by decide +kernel⟩, List.mem_of_getElem? (i := 533) (by decide +kernel), List.mem_of_getElem? (i := 833) (by decide +kernel), List.mem_of_getElem? (i := 834) (by decide +kernel)⟩
theorem lw_p37 : lw_okq (⟨"BalanceRoomModel", "isWorth", "(II)Z"⟩, 24) := ⟨⟨by decide +kernel, by decide +kernel⟩, List.mem_of_getElem? (i := 533) (by decide +kernel), List.mem_of_getElem? (i := 837) (by decide +kernel), List.mem_of_getElem? (i := 838) (by decide +kernel)⟩
def lw_privs_3 : List (MethodName × Nat) := [(⟨"BalanceRoomModel", "told", "(Z)J"⟩, 24), (⟨"BalanceRoomModel", "layTotal", "()V"⟩, 24), (⟨"BalanceRoomModel", "laySquares", "()V"⟩, 24), (⟨"BalanceRoomModel", "doubtfulOf", "([IZ)I"⟩, 24), (⟨"BalanceRoomModel", "does", "(III)Z"⟩, 24), (⟨"BalanceRoomModel", "isWorth", "(II)Z"⟩, 24)]
theorem lw_r3 : ∀ q ∈ lw_privs_3, lw_okq q := List.forall_mem_cons.mpr ⟨lw_p32, List.forall_mem_cons.mpr ⟨lw_p33, List.forall_mem_cons.mpr ⟨lw_p34, List.forall_mem_cons.mpr ⟨lw_p35, List.forall_mem_cons.mpr ⟨lw_p36, List.forall_mem_cons.mpr ⟨lw_p37, fun _ h => absurd h List.not_mem_nil⟩⟩⟩⟩⟩⟩
def lw_privs : List (MethodName × Nat) := lw_privs_1 ++ (lw_privs_2 ++ (lw_privs_3))
def lw_tbl : List Cond := k2_sels lw_privs ++ tables_1
theorem lw_privs_ok : ∀ q ∈ lw_privs, lw_okq q := by
  show ∀ q ∈ lw_privs_1 ++ (lw_privs_2 ++ (lw_privs_3)), lw_okq q
  exact List.forall_mem_append.mpr ⟨lw_r1, List.forall_mem_append.mpr ⟨lw_r2, lw_r3⟩⟩
def RX0 : String := "BalanceRoom$Acts"
def TX0 : u_T := fun k => match k with
  | 0 => ("BalanceRoom$Acts", "before", "[LBalanceRoom$Room;", true)
  | 1 => ("BalanceRoom$Acts", "oldest", "I", false)
  | _ => ("BalanceRoom$Acts", "size", "I", false)
def tyX0 : Nat → FieldType := fun k => match k with
  | 0 => .array (.object "BalanceRoom$Room")
  | 1 => .int
  | _ => .int
abbrev wsX00 : List Cond := u_ws RX0 TX0 3
theorem nmX0 : ∀ a, a < 3 → ∀ b, b < 3 → a ≠ b → (TX0 a).2.1 ≠ (TX0 b).2.1 := by decide +kernel
theorem tyX0_ok : ∀ k, k < 3 → parseFieldDescriptor (TX0 k).2.2.1 = some (tyX0 k) := by decide +kernel
abbrev cX0_init : ByteArray := prog_2_method_1_code
def yX0_init : MethodName := ⟨RX0, "<init>", "()V"⟩
abbrev cX0_remember : ByteArray := prog_2_method_2_code
def yX0_remember : MethodName := ⟨RX0, "remember", "(LBalanceRoom$Room;)V"⟩
abbrev cX0_takeBack : ByteArray := prog_2_method_3_code
def yX0_takeBack : MethodName := ⟨RX0, "takeBack", "(LBalanceRoom$Room;)V"⟩
abbrev cX0_forgetAll : ByteArray := prog_2_method_4_code
def yX0_forgetAll : MethodName := ⟨RX0, "forgetAll", "()V"⟩
def RX1 : String := "BalanceRoom$Fit"
def TX1 : u_T := fun k => match k with
  | 0 => ("BalanceRoom$Fit", "sums", "[[J", true)
  | 1 => ("BalanceRoom$Fit", "swept", "[[J", true)
  | 2 => ("BalanceRoom$Fit", "line", "[J", true)
  | 3 => ("BalanceRoom$Fit", "withDrift", "Z", false)
  | 4 => ("BalanceRoom$Fit", "weightsHere", "I", false)
  | 5 => ("BalanceRoom$Fit", "unknownsHere", "I", false)
  | _ => ("BalanceRoom$Fit", "below", "J", false)
def tyX1 : Nat → FieldType := fun k => match k with
  | 0 => .array (.array .long)
  | 1 => .array (.array .long)
  | 2 => .array .long
  | 3 => .boolean
  | 4 => .int
  | 5 => .int
  | _ => .long
abbrev wsX10 : List Cond := u_ws RX1 TX1 7
theorem nmX1 : ∀ a, a < 7 → ∀ b, b < 7 → a ≠ b → (TX1 a).2.1 ≠ (TX1 b).2.1 := by decide +kernel
theorem tyX1_ok : ∀ k, k < 7 → parseFieldDescriptor (TX1 k).2.2.1 = some (tyX1 k) := by decide +kernel
abbrev cX1_init : ByteArray := prog_3_method_1_code
def yX1_init : MethodName := ⟨RX1, "<init>", "()V"⟩
abbrev cX1_solves : ByteArray := prog_3_method_2_code
def yX1_solves : MethodName := ⟨RX1, "solves", "(LBalanceRoom$Room;Z)Z"⟩
abbrev cX1_solvesWith : ByteArray := prog_3_method_3_code
def yX1_solvesWith : MethodName := ⟨RX1, "solvesWith", "(LBalanceRoom$Room;I)Z"⟩
abbrev cX1_solvesWithout : ByteArray := prog_3_method_4_code
def yX1_solvesWithout : MethodName := ⟨RX1, "solvesWithout", "(LBalanceRoom$Room;I)Z"⟩
abbrev cX1_gather : ByteArray := prog_3_method_5_code
def yX1_gather : MethodName := ⟨RX1, "gather", "(LBalanceRoom$Room;Z)V"⟩
abbrev cX1_put : ByteArray := prog_3_method_6_code
def yX1_put : MethodName := ⟨RX1, "put", "(LBalanceRoom$Room;II)V"⟩
abbrev cX1_sweepAll : ByteArray := prog_3_method_7_code
def yX1_sweepAll : MethodName := ⟨RX1, "sweepAll", "(Z)Z"⟩
abbrev cX1_sweep : ByteArray := prog_3_method_8_code
def yX1_sweep : MethodName := ⟨RX1, "sweep", "(II)V"⟩
abbrev cX1_sweepRow : ByteArray := prog_3_method_9_code
def yX1_sweepRow : MethodName := ⟨RX1, "sweepRow", "(IIJ)V"⟩
abbrev cX1_valueAbove : ByteArray := prog_3_method_10_code
def yX1_valueAbove : MethodName := ⟨RX1, "valueAbove", "(I)J"⟩
abbrev cX1_spreadAbove : ByteArray := prog_3_method_11_code
def yX1_spreadAbove : MethodName := ⟨RX1, "spreadAbove", "(I)J"⟩
abbrev cX1_totalAbove : ByteArray := prog_3_method_12_code
def yX1_totalAbove : MethodName := ⟨RX1, "totalAbove", "()J"⟩
abbrev cX1_restAbove : ByteArray := prog_3_method_13_code
def yX1_restAbove : MethodName := ⟨RX1, "restAbove", "(LBalanceRoom$Room;I)J"⟩
abbrev cX1_squaresAbove : ByteArray := prog_3_method_14_code
def yX1_squaresAbove : MethodName := ⟨RX1, "squaresAbove", "()J"⟩
abbrev cX1_mostDoubtful : ByteArray := prog_3_method_15_code
def yX1_mostDoubtful : MethodName := ⟨RX1, "mostDoubtful", "(LBalanceRoom$Room;Z)I"⟩
abbrev cX1_thoseAlone : ByteArray := prog_3_method_16_code
def yX1_thoseAlone : MethodName := ⟨RX1, "thoseAlone", "(LBalanceRoom$Room;Z)I"⟩
def RX2 : String := "BalanceRoom$Ranks"
def TX2 : u_T := fun k => match k with
  | 0 => ("BalanceRoom$Ranks", "basis", "[[J", true)
  | 1 => ("BalanceRoom$Ranks", "leads", "[I", true)
  | _ => ("BalanceRoom$Ranks", "ofSet", "[I", true)
def tyX2 : Nat → FieldType := fun k => match k with
  | 0 => .array (.array .long)
  | 1 => .array .int
  | _ => .array .int
abbrev wsX20 : List Cond := u_ws RX2 TX2 3
theorem nmX2 : ∀ a, a < 3 → ∀ b, b < 3 → a ≠ b → (TX2 a).2.1 ≠ (TX2 b).2.1 := by decide +kernel
theorem tyX2_ok : ∀ k, k < 3 → parseFieldDescriptor (TX2 k).2.2.1 = some (tyX2 k) := by decide +kernel
abbrev cX2_init : ByteArray := prog_4_method_1_code
def yX2_init : MethodName := ⟨RX2, "<init>", "()V"⟩
abbrev cX2_ofAll : ByteArray := prog_4_method_2_code
def yX2_ofAll : MethodName := ⟨RX2, "ofAll", "(LBalanceRoom$Room;Z)I"⟩
abbrev cX2_ofEach : ByteArray := prog_4_method_3_code
def yX2_ofEach : MethodName := ⟨RX2, "ofEach", "(LBalanceRoom$Room;Z)V"⟩
abbrev cX2_extended : ByteArray := prog_4_method_4_code
def yX2_extended : MethodName := ⟨RX2, "extended", "(ILBalanceRoom$Room;IZ)I"⟩
abbrev cX2_reduce : ByteArray := prog_4_method_5_code
def yX2_reduce : MethodName := ⟨RX2, "reduce", "([J[JII)V"⟩
def RX3 : String := "BalanceRoom$Room"
def TX3 : u_T := fun k => match k with
  | 0 => ("BalanceRoom$Room", "weights", "I", false)
  | 1 => ("BalanceRoom$Room", "masterValue", "I", false)
  | 2 => ("BalanceRoom$Room", "weighings", "I", false)
  | 3 => ("BalanceRoom$Room", "codes", "[I", true)
  | _ => ("BalanceRoom$Room", "readings", "[I", true)
def tyX3 : Nat → FieldType := fun k => match k with
  | 0 => .int
  | 1 => .int
  | 2 => .int
  | 3 => .array .int
  | _ => .array .int
abbrev wsX30 : List Cond := u_ws RX3 TX3 5
theorem nmX3 : ∀ a, a < 5 → ∀ b, b < 5 → a ≠ b → (TX3 a).2.1 ≠ (TX3 b).2.1 := by decide +kernel
theorem tyX3_ok : ∀ k, k < 5 → parseFieldDescriptor (TX3 k).2.2.1 = some (tyX3 k) := by decide +kernel
abbrev cX3_init : ByteArray := prog_5_method_1_code
def yX3_init : MethodName := ⟨RX3, "<init>", "()V"⟩
abbrev cX3_copy : ByteArray := prog_5_method_2_code
def yX3_copy : MethodName := ⟨RX3, "copy", "(LBalanceRoom$Room;)V"⟩
abbrev cX3_takeFrom : ByteArray := prog_5_method_3_code
def yX3_takeFrom : MethodName := ⟨RX3, "takeFrom", "(LBalanceRoom$Text;)V"⟩
abbrev cX3_has : ByteArray := prog_5_method_4_code
def yX3_has : MethodName := ⟨RX3, "has", "(I)Z"⟩
abbrev cX3_unknowns : ByteArray := prog_5_method_5_code
def yX3_unknowns : MethodName := ⟨RX3, "unknowns", "(Z)I"⟩
abbrev cX3_hasUnknown : ByteArray := prog_5_method_6_code
def yX3_hasUnknown : MethodName := ⟨RX3, "hasUnknown", "(IZ)Z"⟩
abbrev cX3_append : ByteArray := prog_5_method_7_code
def yX3_append : MethodName := ⟨RX3, "append", "(II)V"⟩
abbrev cX3_remove : ByteArray := prog_5_method_8_code
def yX3_remove : MethodName := ⟨RX3, "remove", "(I)V"⟩
abbrev cX3_exchange : ByteArray := prog_5_method_9_code
def yX3_exchange : MethodName := ⟨RX3, "exchange", "(II)V"⟩
abbrev cX3_layOut : ByteArray := prog_5_method_10_code
def yX3_layOut : MethodName := ⟨RX3, "layOut", "(IZ[J)V"⟩
abbrev cX3_signOf : ByteArray := prog_5_method_11_code
def yX3_signOf : MethodName := ⟨RX3, "signOf", "(I)I"⟩
def RX4 : String := "BalanceRoom$Text"
def TX4 : u_T := fun k => match k with
  | 0 => ("BalanceRoom$Text", "letters", "[I", true)
  | _ => ("BalanceRoom$Text", "length", "I", false)
def tyX4 : Nat → FieldType := fun k => match k with
  | 0 => .array .int
  | _ => .int
abbrev wsX40 : List Cond := u_ws RX4 TX4 2
theorem nmX4 : ∀ a, a < 2 → ∀ b, b < 2 → a ≠ b → (TX4 a).2.1 ≠ (TX4 b).2.1 := by decide +kernel
theorem tyX4_ok : ∀ k, k < 2 → parseFieldDescriptor (TX4 k).2.2.1 = some (tyX4 k) := by decide +kernel
abbrev cX4_init : ByteArray := prog_6_method_1_code
def yX4_init : MethodName := ⟨RX4, "<init>", "()V"⟩
abbrev cX4_faultPlace : ByteArray := prog_6_method_2_code
def yX4_faultPlace : MethodName := ⟨RX4, "faultPlace", "()I"⟩
abbrev cX4_fits : ByteArray := prog_6_method_3_code
def yX4_fits : MethodName := ⟨RX4, "fits", "(I)Z"⟩
abbrev cX4_isFigure : ByteArray := prog_6_method_4_code
def yX4_isFigure : MethodName := ⟨RX4, "isFigure", "(I)Z"⟩
abbrev cX4_isSign : ByteArray := prog_6_method_5_code
def yX4_isSign : MethodName := ⟨RX4, "isSign", "(I)Z"⟩
abbrev cX4_weightsTold : ByteArray := prog_6_method_6_code
def yX4_weightsTold : MethodName := ⟨RX4, "weightsTold", "()I"⟩
abbrev cX4_lettersEach : ByteArray := prog_6_method_7_code
def yX4_lettersEach : MethodName := ⟨RX4, "lettersEach", "()I"⟩
abbrev cX4_weighingsTold : ByteArray := prog_6_method_8_code
def yX4_weighingsTold : MethodName := ⟨RX4, "weighingsTold", "()I"⟩
abbrev cX4_masterTold : ByteArray := prog_6_method_9_code
def yX4_masterTold : MethodName := ⟨RX4, "masterTold", "()I"⟩
abbrev cX4_codeTold : ByteArray := prog_6_method_10_code
def yX4_codeTold : MethodName := ⟨RX4, "codeTold", "(I)I"⟩
abbrev cX4_readingTold : ByteArray := prog_6_method_11_code
def yX4_readingTold : MethodName := ⟨RX4, "readingTold", "(I)I"⟩
abbrev cX4_startOf : ByteArray := prog_6_method_12_code
def yX4_startOf : MethodName := ⟨RX4, "startOf", "(I)I"⟩
abbrev cX4_figureAt : ByteArray := prog_6_method_13_code
def yX4_figureAt : MethodName := ⟨RX4, "figureAt", "(I)I"⟩
def RX5 : String := "BalanceRoom"
def TX5 : u_T := fun k => match k with
  | 0 => ("BalanceRoom", "text", "LBalanceRoom$Text;", true)
  | 1 => ("BalanceRoom", "here", "LBalanceRoom$Room;", true)
  | 2 => ("BalanceRoom", "trial", "LBalanceRoom$Room;", true)
  | 3 => ("BalanceRoom", "acts", "LBalanceRoom$Acts;", true)
  | 4 => ("BalanceRoom", "slots", "[LBalanceRoom$Room;", true)
  | 5 => ("BalanceRoom", "filled", "[Z", true)
  | 6 => ("BalanceRoom", "fit", "LBalanceRoom$Fit;", true)
  | 7 => ("BalanceRoom", "ranks", "LBalanceRoom$Ranks;", true)
  | _ => ("BalanceRoom", "seedNow", "J", false)
def tyX5 : Nat → FieldType := fun k => match k with
  | 0 => .object "BalanceRoom$Text"
  | 1 => .object "BalanceRoom$Room"
  | 2 => .object "BalanceRoom$Room"
  | 3 => .object "BalanceRoom$Acts"
  | 4 => .array (.object "BalanceRoom$Room")
  | 5 => .array .boolean
  | 6 => .object "BalanceRoom$Fit"
  | 7 => .object "BalanceRoom$Ranks"
  | _ => .long
abbrev wsX50 : List Cond := u_ws RX5 TX5 9
theorem nmX5 : ∀ a, a < 9 → ∀ b, b < 9 → a ≠ b → (TX5 a).2.1 ≠ (TX5 b).2.1 := by decide +kernel
theorem tyX5_ok : ∀ k, k < 9 → parseFieldDescriptor (TX5 k).2.2.1 = some (tyX5 k) := by decide +kernel
abbrev cX5_init : ByteArray := prog_1_method_1_code
def yX5_init : MethodName := ⟨RX5, "<init>", "()V"⟩
abbrev cX5_write : ByteArray := prog_1_method_2_code
def yX5_write : MethodName := ⟨RX5, "write", "(I)I"⟩
abbrev cX5_wipe : ByteArray := prog_1_method_3_code
def yX5_wipe : MethodName := ⟨RX5, "wipe", "()I"⟩
abbrev cX5_fault : ByteArray := prog_1_method_4_code
def yX5_fault : MethodName := ⟨RX5, "fault", "()I"⟩
abbrev cX5_room : ByteArray := prog_1_method_5_code
def yX5_room : MethodName := ⟨RX5, "room", "()I"⟩
abbrev cX5_code : ByteArray := prog_1_method_6_code
def yX5_code : MethodName := ⟨RX5, "code", "(I)I"⟩
abbrev cX5_reading : ByteArray := prog_1_method_7_code
def yX5_reading : MethodName := ⟨RX5, "reading", "(I)I"⟩
abbrev cX5_weigh : ByteArray := prog_1_method_8_code
def yX5_weigh : MethodName := ⟨RX5, "weigh", "(II)I"⟩
abbrev cX5_take : ByteArray := prog_1_method_9_code
def yX5_take : MethodName := ⟨RX5, "take", "(I)I"⟩
abbrev cX5_swap : ByteArray := prog_1_method_10_code
def yX5_swap : MethodName := ⟨RX5, "swap", "(II)I"⟩
abbrev cX5_read : ByteArray := prog_1_method_11_code
def yX5_read : MethodName := ⟨RX5, "read", "(II)I"⟩
abbrev cX5_master : ByteArray := prog_1_method_12_code
def yX5_master : MethodName := ⟨RX5, "master", "(I)I"⟩
abbrev cX5_undo : ByteArray := prog_1_method_13_code
def yX5_undo : MethodName := ⟨RX5, "undo", "()I"⟩
abbrev cX5_rank : ByteArray := prog_1_method_14_code
def yX5_rank : MethodName := ⟨RX5, "rank", "(Z)I"⟩
abbrev cX5_value : ByteArray := prog_1_method_15_code
def yX5_value : MethodName := ⟨RX5, "value", "(IZZ)J"⟩
abbrev cX5_spread : ByteArray := prog_1_method_16_code
def yX5_spread : MethodName := ⟨RX5, "spread", "(IZZ)J"⟩
abbrev cX5_total : ByteArray := prog_1_method_17_code
def yX5_total : MethodName := ⟨RX5, "total", "(ZZ)J"⟩
abbrev cX5_rest : ByteArray := prog_1_method_18_code
def yX5_rest : MethodName := ⟨RX5, "rest", "(IZZ)J"⟩
abbrev cX5_squares : ByteArray := prog_1_method_19_code
def yX5_squares : MethodName := ⟨RX5, "squares", "(ZZ)J"⟩
abbrev cX5_next : ByteArray := prog_1_method_20_code
def yX5_next : MethodName := ⟨RX5, "next", "(Z)I"⟩
abbrev cX5_better : ByteArray := prog_1_method_21_code
def yX5_better : MethodName := ⟨RX5, "better", "()I"⟩
abbrev cX5_doubtful : ByteArray := prog_1_method_22_code
def yX5_doubtful : MethodName := ⟨RX5, "doubtful", "(Z)I"⟩
abbrev cX5_wrong : ByteArray := prog_1_method_23_code
def yX5_wrong : MethodName := ⟨RX5, "wrong", "(Z)I"⟩
abbrev cX5_judge : ByteArray := prog_1_method_24_code
def yX5_judge : MethodName := ⟨RX5, "judge", "(IJ)I"⟩
abbrev cX5_share : ByteArray := prog_1_method_25_code
def yX5_share : MethodName := ⟨RX5, "share", "(IZZ)I"⟩
abbrev cX5_lost : ByteArray := prog_1_method_26_code
def yX5_lost : MethodName := ⟨RX5, "lost", "(IZZ)I"⟩
abbrev cX5_seed : ByteArray := prog_1_method_27_code
def yX5_seed : MethodName := ⟨RX5, "seed", "(J)J"⟩
abbrev cX5_drawn : ByteArray := prog_1_method_28_code
def yX5_drawn : MethodName := ⟨RX5, "drawn", "(I)I"⟩
abbrev cX5_keep : ByteArray := prog_1_method_29_code
def yX5_keep : MethodName := ⟨RX5, "keep", "(I)I"⟩
abbrev cX5_again : ByteArray := prog_1_method_30_code
def yX5_again : MethodName := ⟨RX5, "again", "(I)I"⟩
abbrev cX5_count : ByteArray := prog_1_method_31_code
def yX5_count : MethodName := ⟨RX5, "count", "(I)I"⟩
abbrev cX5_holds : ByteArray := prog_1_method_32_code
def yX5_holds : MethodName := ⟨RX5, "holds", "(I)Z"⟩
abbrev cX5_exchanged : ByteArray := prog_1_method_33_code
def yX5_exchanged : MethodName := ⟨RX5, "exchanged", "(II)Z"⟩
abbrev cX5_removed : ByteArray := prog_1_method_34_code
def yX5_removed : MethodName := ⟨RX5, "removed", "(I)Z"⟩
abbrev cX5_masterSet : ByteArray := prog_1_method_35_code
def yX5_masterSet : MethodName := ⟨RX5, "masterSet", "(I)Z"⟩
abbrev cX5_drawReadings : ByteArray := prog_1_method_36_code
def yX5_drawReadings : MethodName := ⟨RX5, "drawReadings", "(I)V"⟩
abbrev cX5_isReading : ByteArray := prog_1_method_37_code
def yX5_isReading : MethodName := ⟨RX5, "isReading", "(I)Z"⟩
abbrev cX5_isCode : ByteArray := prog_1_method_38_code
def yX5_isCode : MethodName := ⟨RX5, "isCode", "(II)Z"⟩
abbrev cX5_numbered : ByteArray := prog_1_method_39_code
def yX5_numbered : MethodName := ⟨RX5, "numbered", "(II)I"⟩
abbrev cX5_power : ByteArray := prog_1_method_40_code
def yX5_power : MethodName := ⟨RX5, "power", "(II)I"⟩
abbrev cX5_isLess : ByteArray := prog_1_method_41_code
def yX5_isLess : MethodName := ⟨RX5, "isLess", "(JJJJ)Z"⟩
abbrev cX5_told : ByteArray := prog_1_method_42_code
def yX5_told : MethodName := ⟨RX5, "told", "(JJZ)J"⟩
abbrev cX5_commonDivisor : ByteArray := prog_1_method_43_code
def yX5_commonDivisor : MethodName := ⟨RX5, "commonDivisor", "(JJ)J"⟩
def RX6 : String := "BalanceRoomModel"
def TX6 : u_T := fun k => match k with
  | 0 => ("BalanceRoomModel", "thrown", "I", false)
  | 1 => ("BalanceRoomModel", "text", "[I", true)
  | 2 => ("BalanceRoomModel", "textSize", "I", false)
  | 3 => ("BalanceRoomModel", "place", "I", false)
  | 4 => ("BalanceRoomModel", "weights", "I", false)
  | 5 => ("BalanceRoomModel", "readWeights", "I", false)
  | 6 => ("BalanceRoomModel", "readPage", "[I", true)
  | 7 => ("BalanceRoomModel", "page", "[I", true)
  | 8 => ("BalanceRoomModel", "trial", "[I", true)
  | 9 => ("BalanceRoomModel", "other", "[I", true)
  | 10 => ("BalanceRoomModel", "book", "[I", true)
  | 11 => ("BalanceRoomModel", "doings", "I", false)
  | 12 => ("BalanceRoomModel", "kept", "[I", true)
  | 13 => ("BalanceRoomModel", "isKept", "[Z", true)
  | 14 => ("BalanceRoomModel", "seed", "J", false)
  | 15 => ("BalanceRoomModel", "wide", "I", false)
  | 16 => ("BalanceRoomModel", "gram", "[J", true)
  | 17 => ("BalanceRoomModel", "right", "[J", true)
  | 18 => ("BalanceRoomModel", "squaresOfAll", "J", false)
  | 19 => ("BalanceRoomModel", "work", "[J", true)
  | 20 => ("BalanceRoomModel", "chosen", "[I", true)
  | 21 => ("BalanceRoomModel", "column", "[I", true)
  | 22 => ("BalanceRoomModel", "up", "J", false)
  | _ => ("BalanceRoomModel", "low", "J", false)
def tyX6 : Nat → FieldType := fun k => match k with
  | 0 => .int
  | 1 => .array .int
  | 2 => .int
  | 3 => .int
  | 4 => .int
  | 5 => .int
  | 6 => .array .int
  | 7 => .array .int
  | 8 => .array .int
  | 9 => .array .int
  | 10 => .array .int
  | 11 => .int
  | 12 => .array .int
  | 13 => .array .boolean
  | 14 => .long
  | 15 => .int
  | 16 => .array .long
  | 17 => .array .long
  | 18 => .long
  | 19 => .array .long
  | 20 => .array .int
  | 21 => .array .int
  | 22 => .long
  | _ => .long
abbrev wsX60 : List Cond := u_ws RX6 TX6 24
theorem nmX6 : ∀ a, a < 24 → ∀ b, b < 24 → a ≠ b → (TX6 a).2.1 ≠ (TX6 b).2.1 := by decide +kernel
theorem tyX6_ok : ∀ k, k < 24 → parseFieldDescriptor (TX6 k).2.2.1 = some (tyX6 k) := by decide +kernel
abbrev cX6_init : ByteArray := prog_8_method_2_code
def yX6_init : MethodName := ⟨RX6, "<init>", "()V"⟩
abbrev cX6_in : ByteArray := prog_8_method_3_code
def yX6_in : MethodName := ⟨RX6, "in", "(JJJ)Z"⟩
abbrev cX6_has : ByteArray := prog_8_method_4_code
def yX6_has : MethodName := ⟨RX6, "has", "(II)Z"⟩
abbrev cX6_ones : ByteArray := prog_8_method_5_code
def yX6_ones : MethodName := ⟨RX6, "ones", "(I)I"⟩
abbrev cX6_power : ByteArray := prog_8_method_6_code
def yX6_power : MethodName := ⟨RX6, "power", "(II)I"⟩
abbrev cX6_copy : ByteArray := prog_8_method_7_code
def yX6_copy : MethodName := ⟨RX6, "copy", "([I[I)V"⟩
abbrev cX6_noWeighing : ByteArray := prog_8_method_8_code
def yX6_noWeighing : MethodName := ⟨RX6, "noWeighing", "(I)Z"⟩
abbrev cX6_allOf : ByteArray := prog_8_method_9_code
def yX6_allOf : MethodName := ⟨RX6, "allOf", "([I)I"⟩
abbrev cX6_write : ByteArray := prog_8_method_10_code
def yX6_write : MethodName := ⟨RX6, "write", "(I)I"⟩
abbrev cX6_wipe : ByteArray := prog_8_method_11_code
def yX6_wipe : MethodName := ⟨RX6, "wipe", "()I"⟩
abbrev cX6_figure : ByteArray := prog_8_method_12_code
def yX6_figure : MethodName := ⟨RX6, "figure", "(II)I"⟩
abbrev cX6_sign : ByteArray := prog_8_method_13_code
def yX6_sign : MethodName := ⟨RX6, "sign", "(Z)I"⟩
abbrev cX6_readHead : ByteArray := prog_8_method_14_code
def yX6_readHead : MethodName := ⟨RX6, "readHead", "()Z"⟩
abbrev cX6_readWeighing : ByteArray := prog_8_method_15_code
def yX6_readWeighing : MethodName := ⟨RX6, "readWeighing", "()Z"⟩
abbrev cX6_readRoom : ByteArray := prog_8_method_16_code
def yX6_readRoom : MethodName := ⟨RX6, "readRoom", "()I"⟩
abbrev cX6_fault : ByteArray := prog_8_method_17_code
def yX6_fault : MethodName := ⟨RX6, "fault", "()I"⟩
abbrev cX6_room : ByteArray := prog_8_method_18_code
def yX6_room : MethodName := ⟨RX6, "room", "()I"⟩
abbrev cX6_code : ByteArray := prog_8_method_19_code
def yX6_code : MethodName := ⟨RX6, "code", "(I)I"⟩
abbrev cX6_reading : ByteArray := prog_8_method_20_code
def yX6_reading : MethodName := ⟨RX6, "reading", "(I)I"⟩
abbrev cX6_note : ByteArray := prog_8_method_21_code
def yX6_note : MethodName := ⟨RX6, "note", "()V"⟩
abbrev cX6_isCode : ByteArray := prog_8_method_22_code
def yX6_isCode : MethodName := ⟨RX6, "isCode", "(I)Z"⟩
abbrev cX6_weigh : ByteArray := prog_8_method_23_code
def yX6_weigh : MethodName := ⟨RX6, "weigh", "(II)I"⟩
abbrev cX6_takeOn : ByteArray := prog_8_method_24_code
def yX6_takeOn : MethodName := ⟨RX6, "takeOn", "([II)V"⟩
abbrev cX6_swapOn : ByteArray := prog_8_method_25_code
def yX6_swapOn : MethodName := ⟨RX6, "swapOn", "([III)V"⟩
abbrev cX6_take : ByteArray := prog_8_method_26_code
def yX6_take : MethodName := ⟨RX6, "take", "(I)I"⟩
abbrev cX6_swap : ByteArray := prog_8_method_27_code
def yX6_swap : MethodName := ⟨RX6, "swap", "(II)I"⟩
abbrev cX6_read : ByteArray := prog_8_method_28_code
def yX6_read : MethodName := ⟨RX6, "read", "(II)I"⟩
abbrev cX6_master : ByteArray := prog_8_method_29_code
def yX6_master : MethodName := ⟨RX6, "master", "(I)I"⟩
abbrev cX6_undo : ByteArray := prog_8_method_30_code
def yX6_undo : MethodName := ⟨RX6, "undo", "()I"⟩
abbrev cX6_panOf : ByteArray := prog_8_method_31_code
def yX6_panOf : MethodName := ⟨RX6, "panOf", "(II)I"⟩
abbrev cX6_layColumns : ByteArray := prog_8_method_32_code
def yX6_layColumns : MethodName := ⟨RX6, "layColumns", "([IIZ)V"⟩
abbrev cX6_pureOf : ByteArray := prog_8_method_33_code
def yX6_pureOf : MethodName := ⟨RX6, "pureOf", "([III)I"⟩
abbrev cX6_layGram : ByteArray := prog_8_method_34_code
def yX6_layGram : MethodName := ⟨RX6, "layGram", "([IIZ)V"⟩
abbrev cX6_determinant : ByteArray := prog_8_method_35_code
def yX6_determinant : MethodName := ⟨RX6, "determinant", "(I)J"⟩
abbrev cX6_minor : ByteArray := prog_8_method_36_code
def yX6_minor : MethodName := ⟨RX6, "minor", "(II)J"⟩
abbrev cX6_columns : ByteArray := prog_8_method_37_code
def yX6_columns : MethodName := ⟨RX6, "columns", "()I"⟩
abbrev cX6_rankOf : ByteArray := prog_8_method_38_code
def yX6_rankOf : MethodName := ⟨RX6, "rankOf", "([IIZ)I"⟩
abbrev cX6_isLaid : ByteArray := prog_8_method_39_code
def yX6_isLaid : MethodName := ⟨RX6, "isLaid", "([IIZ)Z"⟩
abbrev cX6_divisor : ByteArray := prog_8_method_40_code
def yX6_divisor : MethodName := ⟨RX6, "divisor", "(JJ)J"⟩
abbrev cX6_layFraction : ByteArray := prog_8_method_41_code
def yX6_layFraction : MethodName := ⟨RX6, "layFraction", "(JJ)V"⟩
abbrev cX6_told : ByteArray := prog_8_method_42_code
def yX6_told : MethodName := ⟨RX6, "told", "(Z)J"⟩
abbrev cX6_layTotal : ByteArray := prog_8_method_43_code
def yX6_layTotal : MethodName := ⟨RX6, "layTotal", "()V"⟩
abbrev cX6_laySquares : ByteArray := prog_8_method_44_code
def yX6_laySquares : MethodName := ⟨RX6, "laySquares", "()V"⟩
abbrev cX6_rank : ByteArray := prog_8_method_45_code
def yX6_rank : MethodName := ⟨RX6, "rank", "(Z)I"⟩
abbrev cX6_noColumn : ByteArray := prog_8_method_46_code
def yX6_noColumn : MethodName := ⟨RX6, "noColumn", "(IZ)Z"⟩
abbrev cX6_value : ByteArray := prog_8_method_47_code
def yX6_value : MethodName := ⟨RX6, "value", "(IZZ)J"⟩
abbrev cX6_spread : ByteArray := prog_8_method_48_code
def yX6_spread : MethodName := ⟨RX6, "spread", "(IZZ)J"⟩
abbrev cX6_total : ByteArray := prog_8_method_49_code
def yX6_total : MethodName := ⟨RX6, "total", "(ZZ)J"⟩
abbrev cX6_rest : ByteArray := prog_8_method_50_code
def yX6_rest : MethodName := ⟨RX6, "rest", "(IZZ)J"⟩
abbrev cX6_squares : ByteArray := prog_8_method_51_code
def yX6_squares : MethodName := ⟨RX6, "squares", "(ZZ)J"⟩
abbrev cX6_next : ByteArray := prog_8_method_52_code
def yX6_next : MethodName := ⟨RX6, "next", "(Z)I"⟩
abbrev cX6_better : ByteArray := prog_8_method_53_code
def yX6_better : MethodName := ⟨RX6, "better", "()I"⟩
abbrev cX6_doubtfulOf : ByteArray := prog_8_method_54_code
def yX6_doubtfulOf : MethodName := ⟨RX6, "doubtfulOf", "([IZ)I"⟩
abbrev cX6_doubtful : ByteArray := prog_8_method_55_code
def yX6_doubtful : MethodName := ⟨RX6, "doubtful", "(Z)I"⟩
abbrev cX6_wrong : ByteArray := prog_8_method_56_code
def yX6_wrong : MethodName := ⟨RX6, "wrong", "(Z)I"⟩
abbrev cX6_isWorth : ByteArray := prog_8_method_57_code
def yX6_isWorth : MethodName := ⟨RX6, "isWorth", "(II)Z"⟩
abbrev cX6_does : ByteArray := prog_8_method_58_code
def yX6_does : MethodName := ⟨RX6, "does", "(III)Z"⟩
abbrev cX6_longPower : ByteArray := prog_8_method_59_code
def yX6_longPower : MethodName := ⟨RX6, "longPower", "(JI)J"⟩
abbrev cX6_judge : ByteArray := prog_8_method_60_code
def yX6_judge : MethodName := ⟨RX6, "judge", "(IJ)I"⟩
abbrev cX6_factorial : ByteArray := prog_8_method_61_code
def yX6_factorial : MethodName := ⟨RX6, "factorial", "(I)I"⟩
abbrev cX6_share : ByteArray := prog_8_method_62_code
def yX6_share : MethodName := ⟨RX6, "share", "(IZZ)I"⟩
abbrev cX6_lost : ByteArray := prog_8_method_63_code
def yX6_lost : MethodName := ⟨RX6, "lost", "(IZZ)I"⟩
abbrev cX6_seed : ByteArray := prog_8_method_64_code
def yX6_seed : MethodName := ⟨RX6, "seed", "(J)J"⟩
abbrev cX6_drawn : ByteArray := prog_8_method_65_code
def yX6_drawn : MethodName := ⟨RX6, "drawn", "(I)I"⟩
abbrev cX6_keep : ByteArray := prog_8_method_66_code
def yX6_keep : MethodName := ⟨RX6, "keep", "(I)I"⟩
abbrev cX6_again : ByteArray := prog_8_method_67_code
def yX6_again : MethodName := ⟨RX6, "again", "(I)I"⟩
abbrev cX6_count : ByteArray := prog_8_method_68_code
def yX6_count : MethodName := ⟨RX6, "count", "(I)I"⟩
def RJ6 : String := "java/lang/Integer"
def TJ6 : u_T := fun k => match k with
  | _ => ("", "", "", false)
def tyJ6 : Nat → FieldType := fun k => match k with
  | _ => .int
abbrev wsJ60 : List Cond := u_ws RJ6 TJ6 0
theorem nmJ6 : ∀ a, a < 0 → ∀ b, b < 0 → a ≠ b → (TJ6 a).2.1 ≠ (TJ6 b).2.1 := by decide +kernel
theorem tyJ6_ok : ∀ k, k < 0 → parseFieldDescriptor (TJ6 k).2.2.1 = some (tyJ6 k) := by decide +kernel
abbrev cJ6_bitCount_0f7a4 : ByteArray := prog_9_method_49_code
def yJ6_bitCount_0f7a4 : MethodName := ⟨RJ6, "bitCount", "(I)I"⟩
def RJ9 : String := "java/lang/Math"
def TJ9 : u_T := fun k => match k with
  | _ => ("", "", "", false)
def tyJ9 : Nat → FieldType := fun k => match k with
  | _ => .int
abbrev wsJ90 : List Cond := u_ws RJ9 TJ9 0
theorem nmJ9 : ∀ a, a < 0 → ∀ b, b < 0 → a ≠ b → (TJ9 a).2.1 ≠ (TJ9 b).2.1 := by decide +kernel
theorem tyJ9_ok : ∀ k, k < 0 → parseFieldDescriptor (TJ9 k).2.2.1 = some (tyJ9 k) := by decide +kernel
abbrev cJ9_abs_067f4 : ByteArray := prog_10_method_61_code
def yJ9_abs_067f4 : MethodName := ⟨RJ9, "abs", "(J)J"⟩
abbrev cJ9_min_7cf53 : ByteArray := prog_10_method_69_code
def yJ9_min_7cf53 : MethodName := ⟨RJ9, "min", "(II)I"⟩
def RJ10 : String := "java/lang/System"
def TJ10 : u_T := fun k => match k with
  | _ => ("", "", "", false)
def tyJ10 : Nat → FieldType := fun k => match k with
  | _ => .int
abbrev wsJ100 : List Cond := u_ws RJ10 TJ10 0
theorem nmJ10 : ∀ a, a < 0 → ∀ b, b < 0 → a ≠ b → (TJ10 a).2.1 ≠ (TJ10 b).2.1 := by decide +kernel
theorem tyJ10_ok : ∀ k, k < 0 → parseFieldDescriptor (TJ10 k).2.2.1 = some (tyJ10 k) := by decide +kernel
def RL : String := "BalanceRoomLaw"
abbrev cL_law : ByteArray := code
def yL_law : MethodName := ⟨RL, "law", "([I)Z"⟩
abbrev vwCl : List vw_C := [(RX0, TX0, 3), (RX1, TX1, 7), (RX2, TX2, 3), (RX3, TX3, 5), (RX4, TX4, 2), (RX5, TX5, 9), (RX6, TX6, 24)]
end
section
/-- the words that every contract stands on -/
def zU : List Cond := lw_tbl.filter goodWord
theorem zU_i {i : Nat} {w : Cond} (h : lw_tbl[i]? = some w) (g : goodWord w = true) : w ∈ zU := List.mem_filter.mpr ⟨List.mem_of_getElem? h, g⟩
theorem zU_good {w : Cond} (h : w ∈ zU) : (w.onTables && w.keeps) = true ∨ ∃ ty, w = .arrayClass ty := good_of_word (List.mem_filter.mp h).2
theorem zU_lw {w : Cond} (h : w ∈ zU) : w ∈ lw_tbl := (List.mem_filter.mp h).1
theorem zw_0 : (Jvm.Cond.selects "BalanceRoom$Text" ({ cls := "BalanceRoom$Text", name := "fits", desc := "(I)Z" } : Jvm.MethodName) ({ cls := "BalanceRoom$Text", name := "fits", desc := "(I)Z" } : Jvm.MethodName)) ∈ zU := zU_i (i := 0) (by decide +kernel) (by decide +kernel)
theorem zw_1 : (Jvm.Cond.selects "BalanceRoom$Text" ({ cls := "BalanceRoom$Text", name := "figureAt", desc := "(I)I" } : Jvm.MethodName) ({ cls := "BalanceRoom$Text", name := "figureAt", desc := "(I)I" } : Jvm.MethodName)) ∈ zU := zU_i (i := 1) (by decide +kernel) (by decide +kernel)
theorem zw_2 : (Jvm.Cond.selects "BalanceRoom$Text" ({ cls := "BalanceRoom$Text", name := "startOf", desc := "(I)I" } : Jvm.MethodName) ({ cls := "BalanceRoom$Text", name := "startOf", desc := "(I)I" } : Jvm.MethodName)) ∈ zU := zU_i (i := 2) (by decide +kernel) (by decide +kernel)
theorem zw_3 : (Jvm.Cond.selects "BalanceRoom$Ranks" ({ cls := "BalanceRoom$Ranks", name := "extended", desc := "(ILBalanceRoom$Room;IZ)I" } : Jvm.MethodName) ({ cls := "BalanceRoom$Ranks", name := "extended", desc := "(ILBalanceRoom$Room;IZ)I" } : Jvm.MethodName)) ∈ zU := zU_i (i := 3) (by decide +kernel) (by decide +kernel)
theorem zw_4 : (Jvm.Cond.selects "BalanceRoom$Fit" ({ cls := "BalanceRoom$Fit", name := "put", desc := "(LBalanceRoom$Room;II)V" } : Jvm.MethodName) ({ cls := "BalanceRoom$Fit", name := "put", desc := "(LBalanceRoom$Room;II)V" } : Jvm.MethodName)) ∈ zU := zU_i (i := 4) (by decide +kernel) (by decide +kernel)
theorem zw_5 : (Jvm.Cond.selects "BalanceRoom$Fit" ({ cls := "BalanceRoom$Fit", name := "sweepAll", desc := "(Z)Z" } : Jvm.MethodName) ({ cls := "BalanceRoom$Fit", name := "sweepAll", desc := "(Z)Z" } : Jvm.MethodName)) ∈ zU := zU_i (i := 5) (by decide +kernel) (by decide +kernel)
theorem zw_6 : (Jvm.Cond.selects "BalanceRoom$Fit" ({ cls := "BalanceRoom$Fit", name := "sweep", desc := "(II)V" } : Jvm.MethodName) ({ cls := "BalanceRoom$Fit", name := "sweep", desc := "(II)V" } : Jvm.MethodName)) ∈ zU := zU_i (i := 6) (by decide +kernel) (by decide +kernel)
theorem zw_7 : (Jvm.Cond.selects "BalanceRoom$Fit" ({ cls := "BalanceRoom$Fit", name := "sweepRow", desc := "(IIJ)V" } : Jvm.MethodName) ({ cls := "BalanceRoom$Fit", name := "sweepRow", desc := "(IIJ)V" } : Jvm.MethodName)) ∈ zU := zU_i (i := 7) (by decide +kernel) (by decide +kernel)
theorem zw_8 : (Jvm.Cond.selects "BalanceRoom$Fit" ({ cls := "BalanceRoom$Fit", name := "solvesWithout", desc := "(LBalanceRoom$Room;I)Z" } : Jvm.MethodName) ({ cls := "BalanceRoom$Fit", name := "solvesWithout", desc := "(LBalanceRoom$Room;I)Z" } : Jvm.MethodName)) ∈ zU := zU_i (i := 8) (by decide +kernel) (by decide +kernel)
theorem zw_9 : (Jvm.Cond.selects "BalanceRoom" ({ cls := "BalanceRoom", name := "holds", desc := "(I)Z" } : Jvm.MethodName) ({ cls := "BalanceRoom", name := "holds", desc := "(I)Z" } : Jvm.MethodName)) ∈ zU := zU_i (i := 9) (by decide +kernel) (by decide +kernel)
theorem zw_10 : (Jvm.Cond.selects "BalanceRoom" ({ cls := "BalanceRoom", name := "exchanged", desc := "(II)Z" } : Jvm.MethodName) ({ cls := "BalanceRoom", name := "exchanged", desc := "(II)Z" } : Jvm.MethodName)) ∈ zU := zU_i (i := 10) (by decide +kernel) (by decide +kernel)
theorem zw_11 : (Jvm.Cond.selects "BalanceRoom" ({ cls := "BalanceRoom", name := "removed", desc := "(I)Z" } : Jvm.MethodName) ({ cls := "BalanceRoom", name := "removed", desc := "(I)Z" } : Jvm.MethodName)) ∈ zU := zU_i (i := 11) (by decide +kernel) (by decide +kernel)
theorem zw_12 : (Jvm.Cond.selects "BalanceRoom" ({ cls := "BalanceRoom", name := "masterSet", desc := "(I)Z" } : Jvm.MethodName) ({ cls := "BalanceRoom", name := "masterSet", desc := "(I)Z" } : Jvm.MethodName)) ∈ zU := zU_i (i := 12) (by decide +kernel) (by decide +kernel)
theorem zw_13 : (Jvm.Cond.selects "BalanceRoom" ({ cls := "BalanceRoom", name := "drawReadings", desc := "(I)V" } : Jvm.MethodName) ({ cls := "BalanceRoom", name := "drawReadings", desc := "(I)V" } : Jvm.MethodName)) ∈ zU := zU_i (i := 13) (by decide +kernel) (by decide +kernel)
theorem zw_14 : (Jvm.Cond.selects "BalanceRoomModel" ({ cls := "BalanceRoomModel", name := "readRoom", desc := "()I" } : Jvm.MethodName) ({ cls := "BalanceRoomModel", name := "readRoom", desc := "()I" } : Jvm.MethodName)) ∈ zU := zU_i (i := 14) (by decide +kernel) (by decide +kernel)
theorem zw_15 : (Jvm.Cond.selects "BalanceRoomModel" ({ cls := "BalanceRoomModel", name := "readHead", desc := "()Z" } : Jvm.MethodName) ({ cls := "BalanceRoomModel", name := "readHead", desc := "()Z" } : Jvm.MethodName)) ∈ zU := zU_i (i := 15) (by decide +kernel) (by decide +kernel)
theorem zw_16 : (Jvm.Cond.selects "BalanceRoomModel" ({ cls := "BalanceRoomModel", name := "figure", desc := "(II)I" } : Jvm.MethodName) ({ cls := "BalanceRoomModel", name := "figure", desc := "(II)I" } : Jvm.MethodName)) ∈ zU := zU_i (i := 16) (by decide +kernel) (by decide +kernel)
theorem zw_17 : (Jvm.Cond.selects "BalanceRoomModel" ({ cls := "BalanceRoomModel", name := "readWeighing", desc := "()Z" } : Jvm.MethodName) ({ cls := "BalanceRoomModel", name := "readWeighing", desc := "()Z" } : Jvm.MethodName)) ∈ zU := zU_i (i := 17) (by decide +kernel) (by decide +kernel)
theorem zw_18 : (Jvm.Cond.selects "BalanceRoomModel" ({ cls := "BalanceRoomModel", name := "sign", desc := "(Z)I" } : Jvm.MethodName) ({ cls := "BalanceRoomModel", name := "sign", desc := "(Z)I" } : Jvm.MethodName)) ∈ zU := zU_i (i := 18) (by decide +kernel) (by decide +kernel)
theorem zw_19 : (Jvm.Cond.selects "BalanceRoomModel" ({ cls := "BalanceRoomModel", name := "noWeighing", desc := "(I)Z" } : Jvm.MethodName) ({ cls := "BalanceRoomModel", name := "noWeighing", desc := "(I)Z" } : Jvm.MethodName)) ∈ zU := zU_i (i := 19) (by decide +kernel) (by decide +kernel)
theorem zw_20 : (Jvm.Cond.selects "BalanceRoomModel" ({ cls := "BalanceRoomModel", name := "isCode", desc := "(I)Z" } : Jvm.MethodName) ({ cls := "BalanceRoomModel", name := "isCode", desc := "(I)Z" } : Jvm.MethodName)) ∈ zU := zU_i (i := 20) (by decide +kernel) (by decide +kernel)
theorem zw_21 : (Jvm.Cond.selects "BalanceRoomModel" ({ cls := "BalanceRoomModel", name := "note", desc := "()V" } : Jvm.MethodName) ({ cls := "BalanceRoomModel", name := "note", desc := "()V" } : Jvm.MethodName)) ∈ zU := zU_i (i := 21) (by decide +kernel) (by decide +kernel)
theorem zw_22 : (Jvm.Cond.selects "BalanceRoomModel" ({ cls := "BalanceRoomModel", name := "rankOf", desc := "([IIZ)I" } : Jvm.MethodName) ({ cls := "BalanceRoomModel", name := "rankOf", desc := "([IIZ)I" } : Jvm.MethodName)) ∈ zU := zU_i (i := 22) (by decide +kernel) (by decide +kernel)
theorem zw_23 : (Jvm.Cond.selects "BalanceRoomModel" ({ cls := "BalanceRoomModel", name := "layGram", desc := "([IIZ)V" } : Jvm.MethodName) ({ cls := "BalanceRoomModel", name := "layGram", desc := "([IIZ)V" } : Jvm.MethodName)) ∈ zU := zU_i (i := 23) (by decide +kernel) (by decide +kernel)
theorem zw_24 : (Jvm.Cond.selects "BalanceRoomModel" ({ cls := "BalanceRoomModel", name := "layColumns", desc := "([IIZ)V" } : Jvm.MethodName) ({ cls := "BalanceRoomModel", name := "layColumns", desc := "([IIZ)V" } : Jvm.MethodName)) ∈ zU := zU_i (i := 24) (by decide +kernel) (by decide +kernel)
theorem zw_25 : (Jvm.Cond.selects "BalanceRoomModel" ({ cls := "BalanceRoomModel", name := "panOf", desc := "(II)I" } : Jvm.MethodName) ({ cls := "BalanceRoomModel", name := "panOf", desc := "(II)I" } : Jvm.MethodName)) ∈ zU := zU_i (i := 25) (by decide +kernel) (by decide +kernel)
theorem zw_26 : (Jvm.Cond.selects "BalanceRoomModel" ({ cls := "BalanceRoomModel", name := "columns", desc := "()I" } : Jvm.MethodName) ({ cls := "BalanceRoomModel", name := "columns", desc := "()I" } : Jvm.MethodName)) ∈ zU := zU_i (i := 26) (by decide +kernel) (by decide +kernel)
theorem zw_27 : (Jvm.Cond.selects "BalanceRoomModel" ({ cls := "BalanceRoomModel", name := "minor", desc := "(II)J" } : Jvm.MethodName) ({ cls := "BalanceRoomModel", name := "minor", desc := "(II)J" } : Jvm.MethodName)) ∈ zU := zU_i (i := 27) (by decide +kernel) (by decide +kernel)
theorem zw_28 : (Jvm.Cond.selects "BalanceRoomModel" ({ cls := "BalanceRoomModel", name := "determinant", desc := "(I)J" } : Jvm.MethodName) ({ cls := "BalanceRoomModel", name := "determinant", desc := "(I)J" } : Jvm.MethodName)) ∈ zU := zU_i (i := 28) (by decide +kernel) (by decide +kernel)
theorem zw_29 : (Jvm.Cond.selects "BalanceRoomModel" ({ cls := "BalanceRoomModel", name := "noColumn", desc := "(IZ)Z" } : Jvm.MethodName) ({ cls := "BalanceRoomModel", name := "noColumn", desc := "(IZ)Z" } : Jvm.MethodName)) ∈ zU := zU_i (i := 29) (by decide +kernel) (by decide +kernel)
theorem zw_30 : (Jvm.Cond.selects "BalanceRoomModel" ({ cls := "BalanceRoomModel", name := "isLaid", desc := "([IIZ)Z" } : Jvm.MethodName) ({ cls := "BalanceRoomModel", name := "isLaid", desc := "([IIZ)Z" } : Jvm.MethodName)) ∈ zU := zU_i (i := 30) (by decide +kernel) (by decide +kernel)
theorem zw_31 : (Jvm.Cond.selects "BalanceRoomModel" ({ cls := "BalanceRoomModel", name := "layFraction", desc := "(JJ)V" } : Jvm.MethodName) ({ cls := "BalanceRoomModel", name := "layFraction", desc := "(JJ)V" } : Jvm.MethodName)) ∈ zU := zU_i (i := 31) (by decide +kernel) (by decide +kernel)
theorem zw_32 : (Jvm.Cond.selects "BalanceRoomModel" ({ cls := "BalanceRoomModel", name := "told", desc := "(Z)J" } : Jvm.MethodName) ({ cls := "BalanceRoomModel", name := "told", desc := "(Z)J" } : Jvm.MethodName)) ∈ zU := zU_i (i := 32) (by decide +kernel) (by decide +kernel)
theorem zw_33 : (Jvm.Cond.selects "BalanceRoomModel" ({ cls := "BalanceRoomModel", name := "layTotal", desc := "()V" } : Jvm.MethodName) ({ cls := "BalanceRoomModel", name := "layTotal", desc := "()V" } : Jvm.MethodName)) ∈ zU := zU_i (i := 33) (by decide +kernel) (by decide +kernel)
theorem zw_34 : (Jvm.Cond.selects "BalanceRoomModel" ({ cls := "BalanceRoomModel", name := "laySquares", desc := "()V" } : Jvm.MethodName) ({ cls := "BalanceRoomModel", name := "laySquares", desc := "()V" } : Jvm.MethodName)) ∈ zU := zU_i (i := 34) (by decide +kernel) (by decide +kernel)
theorem zw_35 : (Jvm.Cond.selects "BalanceRoomModel" ({ cls := "BalanceRoomModel", name := "doubtfulOf", desc := "([IZ)I" } : Jvm.MethodName) ({ cls := "BalanceRoomModel", name := "doubtfulOf", desc := "([IZ)I" } : Jvm.MethodName)) ∈ zU := zU_i (i := 35) (by decide +kernel) (by decide +kernel)
theorem zw_36 : (Jvm.Cond.selects "BalanceRoomModel" ({ cls := "BalanceRoomModel", name := "does", desc := "(III)Z" } : Jvm.MethodName) ({ cls := "BalanceRoomModel", name := "does", desc := "(III)Z" } : Jvm.MethodName)) ∈ zU := zU_i (i := 36) (by decide +kernel) (by decide +kernel)
theorem zw_37 : (Jvm.Cond.selects "BalanceRoomModel" ({ cls := "BalanceRoomModel", name := "isWorth", desc := "(II)Z" } : Jvm.MethodName) ({ cls := "BalanceRoomModel", name := "isWorth", desc := "(II)Z" } : Jvm.MethodName)) ∈ zU := zU_i (i := 37) (by decide +kernel) (by decide +kernel)
theorem zw_38 : (Jvm.Cond.initialized "BalanceRoomLaw") ∈ zU := zU_i (i := 38) (by decide +kernel) (by decide +kernel)
theorem zw_39 : (Jvm.Cond.initialized "BalanceRoom") ∈ zU := zU_i (i := 39) (by decide +kernel) (by decide +kernel)
theorem zw_40 : (Jvm.Cond.initialized "BalanceRoom$Text") ∈ zU := zU_i (i := 40) (by decide +kernel) (by decide +kernel)
theorem zw_41 : (Jvm.Cond.initialized "BalanceRoom$Room") ∈ zU := zU_i (i := 41) (by decide +kernel) (by decide +kernel)
theorem zw_42 : (Jvm.Cond.initialized "BalanceRoom$Acts") ∈ zU := zU_i (i := 42) (by decide +kernel) (by decide +kernel)
theorem zw_43 : (Jvm.Cond.initialized "BalanceRoom$Fit") ∈ zU := zU_i (i := 43) (by decide +kernel) (by decide +kernel)
theorem zw_44 : (Jvm.Cond.initialized "BalanceRoom$Ranks") ∈ zU := zU_i (i := 44) (by decide +kernel) (by decide +kernel)
theorem zw_45 : (Jvm.Cond.initialized "BalanceRoomModel") ∈ zU := zU_i (i := 45) (by decide +kernel) (by decide +kernel)
theorem zw_46 : (Jvm.Cond.initialized "java/lang/Math") ∈ zU := zU_i (i := 46) (by decide +kernel) (by decide +kernel)
theorem zw_47 : (Jvm.Cond.initialized "java/lang/System") ∈ zU := zU_i (i := 47) (by decide +kernel) (by decide +kernel)
theorem zw_48 : (Jvm.Cond.initialized "java/lang/Integer") ∈ zU := zU_i (i := 48) (by decide +kernel) (by decide +kernel)
theorem zw_49 : (Jvm.Cond.classLink "BalanceRoomLaw" (7 : Nat) "BalanceRoom") ∈ zU := zU_i (i := 49) (by decide +kernel) (by decide +kernel)
theorem zw_50 : (Jvm.Cond.instantiable "BalanceRoom" (9 : Nat)) ∈ zU := zU_i (i := 50) (by decide +kernel) (by decide +kernel)
theorem zw_51 : (Jvm.Cond.methodLink "BalanceRoomLaw" (9 : Nat) ({ cls := "BalanceRoom", name := "<init>", desc := "()V" } : Jvm.MethodName)) ∈ zU := zU_i (i := 51) (by decide +kernel) (by decide +kernel)
theorem zw_52 : (Jvm.Cond.instanceMethod ({ cls := "BalanceRoom", name := "<init>", desc := "()V" } : Jvm.MethodName)) ∈ zU := zU_i (i := 52) (by decide +kernel) (by decide +kernel)
set_option maxRecDepth 100000 in
theorem zw_53 : (Jvm.Cond.code ({ cls := "BalanceRoom", name := "<init>", desc := "()V" } : Jvm.MethodName) prog_1_method_1_code (2 : Nat) (Option.none : Option Jvm.ClassFile.FieldType)) ∈ zU := zU_i (i := 53) (rfl) (by decide +kernel)
theorem zw_54 : (Jvm.Cond.methodLink "BalanceRoom" (1 : Nat) ({ cls := "java/lang/Object", name := "<init>", desc := "()V" } : Jvm.MethodName)) ∈ zU := zU_i (i := 54) (by decide +kernel) (by decide +kernel)
theorem zw_55 : (Jvm.Cond.instanceMethod ({ cls := "java/lang/Object", name := "<init>", desc := "()V" } : Jvm.MethodName)) ∈ zU := zU_i (i := 55) (by decide +kernel) (by decide +kernel)
set_option maxRecDepth 100000 in
theorem zw_56 : (Jvm.Cond.code ({ cls := "java/lang/Object", name := "<init>", desc := "()V" } : Jvm.MethodName) object_method_1_code (1 : Nat) (Option.none : Option Jvm.ClassFile.FieldType)) ∈ zU := zU_i (i := 56) (rfl) (by decide +kernel)
theorem zw_57 : (Jvm.Cond.classLink "BalanceRoom" (7 : Nat) "BalanceRoom$Text") ∈ zU := zU_i (i := 57) (by decide +kernel) (by decide +kernel)
theorem zw_58 : (Jvm.Cond.instantiable "BalanceRoom$Text" (2 : Nat)) ∈ zU := zU_i (i := 58) (by decide +kernel) (by decide +kernel)
theorem zl_59 : (Jvm.Cond.methodLinkNest "BalanceRoom" (9 : Nat) ({ cls := "BalanceRoom$Text", name := "<init>", desc := "()V" } : Jvm.MethodName) "BalanceRoom") ∈ lw_tbl := List.mem_of_getElem? (i := 59) (by decide +kernel)
theorem zw_60 : (Jvm.Cond.instanceMethod ({ cls := "BalanceRoom$Text", name := "<init>", desc := "()V" } : Jvm.MethodName)) ∈ zU := zU_i (i := 60) (by decide +kernel) (by decide +kernel)
set_option maxRecDepth 100000 in
theorem zw_61 : (Jvm.Cond.code ({ cls := "BalanceRoom$Text", name := "<init>", desc := "()V" } : Jvm.MethodName) prog_6_method_1_code (1 : Nat) (Option.none : Option Jvm.ClassFile.FieldType)) ∈ zU := zU_i (i := 61) (rfl) (by decide +kernel)
theorem zw_62 : (Jvm.Cond.methodLink "BalanceRoom$Text" (3 : Nat) ({ cls := "java/lang/Object", name := "<init>", desc := "()V" } : Jvm.MethodName)) ∈ zU := zU_i (i := 62) (by decide +kernel) (by decide +kernel)
theorem zw_63 : (Jvm.Cond.fieldLink "BalanceRoom$Text" (9 : Nat) "BalanceRoom$Text" "letters" "[I") ∈ zU := zU_i (i := 63) (by decide +kernel) (by decide +kernel)
theorem zw_64 : (Jvm.Cond.fieldLink "BalanceRoom" (63 : Nat) "BalanceRoom$Text" "letters" "[I") ∈ zU := zU_i (i := 64) (by decide +kernel) (by decide +kernel)
theorem zw_65 : (Jvm.Cond.fieldLink "BalanceRoom$Text" (15 : Nat) "BalanceRoom$Text" "length" "I") ∈ zU := zU_i (i := 65) (by decide +kernel) (by decide +kernel)
theorem zw_66 : (Jvm.Cond.fieldLink "BalanceRoom" (59 : Nat) "BalanceRoom$Text" "length" "I") ∈ zU := zU_i (i := 66) (by decide +kernel) (by decide +kernel)
theorem zw_67 : (Jvm.Cond.laysFinal "BalanceRoom$Text" "BalanceRoom$Text" "letters" "[I") ∈ zU := zU_i (i := 67) (by decide +kernel) (by decide +kernel)
theorem zw_69 : (Jvm.Cond.lays "BalanceRoom$Text" "BalanceRoom$Text" "length" "I") ∈ zU := zU_i (i := 69) (by decide +kernel) (by decide +kernel)
theorem zw_72 : (Jvm.Cond.arrayClass Jvm.ClassFile.FieldType.int) ∈ zU := zU_i (i := 72) (by decide +kernel) (by decide +kernel)
theorem zw_73 : (Jvm.Cond.classLink "BalanceRoom" (16 : Nat) "BalanceRoom$Room") ∈ zU := zU_i (i := 73) (by decide +kernel) (by decide +kernel)
theorem zw_74 : (Jvm.Cond.instantiable "BalanceRoom$Room" (5 : Nat)) ∈ zU := zU_i (i := 74) (by decide +kernel) (by decide +kernel)
theorem zl_75 : (Jvm.Cond.methodLinkNest "BalanceRoom" (18 : Nat) ({ cls := "BalanceRoom$Room", name := "<init>", desc := "()V" } : Jvm.MethodName) "BalanceRoom") ∈ lw_tbl := List.mem_of_getElem? (i := 75) (by decide +kernel)
theorem zw_76 : (Jvm.Cond.instanceMethod ({ cls := "BalanceRoom$Room", name := "<init>", desc := "()V" } : Jvm.MethodName)) ∈ zU := zU_i (i := 76) (by decide +kernel) (by decide +kernel)
set_option maxRecDepth 100000 in
theorem zw_77 : (Jvm.Cond.code ({ cls := "BalanceRoom$Room", name := "<init>", desc := "()V" } : Jvm.MethodName) prog_5_method_1_code (1 : Nat) (Option.none : Option Jvm.ClassFile.FieldType)) ∈ zU := zU_i (i := 77) (rfl) (by decide +kernel)
theorem zw_78 : (Jvm.Cond.methodLink "BalanceRoom$Room" (3 : Nat) ({ cls := "java/lang/Object", name := "<init>", desc := "()V" } : Jvm.MethodName)) ∈ zU := zU_i (i := 78) (by decide +kernel) (by decide +kernel)
theorem zw_79 : (Jvm.Cond.fieldLink "BalanceRoom$Room" (9 : Nat) "BalanceRoom$Room" "weights" "I") ∈ zU := zU_i (i := 79) (by decide +kernel) (by decide +kernel)
theorem zw_80 : (Jvm.Cond.fieldLink "BalanceRoom$Fit" (50 : Nat) "BalanceRoom$Room" "weights" "I") ∈ zU := zU_i (i := 80) (by decide +kernel) (by decide +kernel)
theorem zw_81 : (Jvm.Cond.fieldLink "BalanceRoom" (91 : Nat) "BalanceRoom$Room" "weights" "I") ∈ zU := zU_i (i := 81) (by decide +kernel) (by decide +kernel)
theorem zw_82 : (Jvm.Cond.fieldLink "BalanceRoom$Room" (15 : Nat) "BalanceRoom$Room" "masterValue" "I") ∈ zU := zU_i (i := 82) (by decide +kernel) (by decide +kernel)
theorem zw_83 : (Jvm.Cond.fieldLink "BalanceRoom" (116 : Nat) "BalanceRoom$Room" "masterValue" "I") ∈ zU := zU_i (i := 83) (by decide +kernel) (by decide +kernel)
theorem zw_84 : (Jvm.Cond.fieldLink "BalanceRoom$Room" (18 : Nat) "BalanceRoom$Room" "weighings" "I") ∈ zU := zU_i (i := 84) (by decide +kernel) (by decide +kernel)
theorem zw_85 : (Jvm.Cond.fieldLink "BalanceRoom$Ranks" (23 : Nat) "BalanceRoom$Room" "weighings" "I") ∈ zU := zU_i (i := 85) (by decide +kernel) (by decide +kernel)
theorem zw_86 : (Jvm.Cond.fieldLink "BalanceRoom" (78 : Nat) "BalanceRoom$Room" "weighings" "I") ∈ zU := zU_i (i := 86) (by decide +kernel) (by decide +kernel)
theorem zw_87 : (Jvm.Cond.fieldLink "BalanceRoom$Fit" (59 : Nat) "BalanceRoom$Room" "weighings" "I") ∈ zU := zU_i (i := 87) (by decide +kernel) (by decide +kernel)
theorem zw_88 : (Jvm.Cond.fieldLink "BalanceRoom$Room" (21 : Nat) "BalanceRoom$Room" "codes" "[I") ∈ zU := zU_i (i := 88) (by decide +kernel) (by decide +kernel)
theorem zw_89 : (Jvm.Cond.fieldLink "BalanceRoom" (85 : Nat) "BalanceRoom$Room" "codes" "[I") ∈ zU := zU_i (i := 89) (by decide +kernel) (by decide +kernel)
theorem zw_90 : (Jvm.Cond.fieldLink "BalanceRoom$Room" (25 : Nat) "BalanceRoom$Room" "readings" "[I") ∈ zU := zU_i (i := 90) (by decide +kernel) (by decide +kernel)
theorem zw_91 : (Jvm.Cond.fieldLink "BalanceRoom" (88 : Nat) "BalanceRoom$Room" "readings" "[I") ∈ zU := zU_i (i := 91) (by decide +kernel) (by decide +kernel)
theorem zw_92 : (Jvm.Cond.lays "BalanceRoom$Room" "BalanceRoom$Room" "weights" "I") ∈ zU := zU_i (i := 92) (by decide +kernel) (by decide +kernel)
theorem zw_94 : (Jvm.Cond.lays "BalanceRoom$Room" "BalanceRoom$Room" "masterValue" "I") ∈ zU := zU_i (i := 94) (by decide +kernel) (by decide +kernel)
theorem zw_96 : (Jvm.Cond.lays "BalanceRoom$Room" "BalanceRoom$Room" "weighings" "I") ∈ zU := zU_i (i := 96) (by decide +kernel) (by decide +kernel)
theorem zw_98 : (Jvm.Cond.laysFinal "BalanceRoom$Room" "BalanceRoom$Room" "codes" "[I") ∈ zU := zU_i (i := 98) (by decide +kernel) (by decide +kernel)
theorem zw_100 : (Jvm.Cond.laysFinal "BalanceRoom$Room" "BalanceRoom$Room" "readings" "[I") ∈ zU := zU_i (i := 100) (by decide +kernel) (by decide +kernel)
theorem zw_103 : (Jvm.Cond.classLink "BalanceRoom" (26 : Nat) "BalanceRoom$Acts") ∈ zU := zU_i (i := 103) (by decide +kernel) (by decide +kernel)
theorem zw_104 : (Jvm.Cond.instantiable "BalanceRoom$Acts" (3 : Nat)) ∈ zU := zU_i (i := 104) (by decide +kernel) (by decide +kernel)
theorem zw_105 : (Jvm.Cond.methodLink "BalanceRoom" (28 : Nat) ({ cls := "BalanceRoom$Acts", name := "<init>", desc := "()V" } : Jvm.MethodName)) ∈ zU := zU_i (i := 105) (by decide +kernel) (by decide +kernel)
theorem zw_106 : (Jvm.Cond.instanceMethod ({ cls := "BalanceRoom$Acts", name := "<init>", desc := "()V" } : Jvm.MethodName)) ∈ zU := zU_i (i := 106) (by decide +kernel) (by decide +kernel)
set_option maxRecDepth 100000 in
theorem zw_107 : (Jvm.Cond.code ({ cls := "BalanceRoom$Acts", name := "<init>", desc := "()V" } : Jvm.MethodName) prog_2_method_1_code (2 : Nat) (Option.none : Option Jvm.ClassFile.FieldType)) ∈ zU := zU_i (i := 107) (rfl) (by decide +kernel)
theorem zw_108 : (Jvm.Cond.methodLink "BalanceRoom$Acts" (3 : Nat) ({ cls := "java/lang/Object", name := "<init>", desc := "()V" } : Jvm.MethodName)) ∈ zU := zU_i (i := 108) (by decide +kernel) (by decide +kernel)
theorem zw_109 : (Jvm.Cond.classLink "BalanceRoom$Acts" (9 : Nat) "BalanceRoom$Room") ∈ zU := zU_i (i := 109) (by decide +kernel) (by decide +kernel)
theorem zl_110 : (Jvm.Cond.arrayOver (Jvm.ClassFile.FieldType.object "BalanceRoom$Room")) ∈ lw_tbl := List.mem_of_getElem? (i := 110) (by decide +kernel)
theorem zl_111 : (Jvm.Cond.methodLinkNest "BalanceRoom$Acts" (24 : Nat) ({ cls := "BalanceRoom$Room", name := "<init>", desc := "()V" } : Jvm.MethodName) "BalanceRoom") ∈ lw_tbl := List.mem_of_getElem? (i := 111) (by decide +kernel)
theorem zw_112 : (Jvm.Cond.fieldLink "BalanceRoom$Acts" (11 : Nat) "BalanceRoom$Acts" "before" "[LBalanceRoom$Room;") ∈ zU := zU_i (i := 112) (by decide +kernel) (by decide +kernel)
theorem zw_113 : (Jvm.Cond.fieldLink "BalanceRoom$Acts" (17 : Nat) "BalanceRoom$Acts" "oldest" "I") ∈ zU := zU_i (i := 113) (by decide +kernel) (by decide +kernel)
theorem zw_114 : (Jvm.Cond.fieldLink "BalanceRoom$Acts" (21 : Nat) "BalanceRoom$Acts" "size" "I") ∈ zU := zU_i (i := 114) (by decide +kernel) (by decide +kernel)
theorem zw_115 : (Jvm.Cond.fieldLink "BalanceRoom" (119 : Nat) "BalanceRoom$Acts" "size" "I") ∈ zU := zU_i (i := 115) (by decide +kernel) (by decide +kernel)
theorem zw_116 : (Jvm.Cond.laysFinal "BalanceRoom$Acts" "BalanceRoom$Acts" "before" "[LBalanceRoom$Room;") ∈ zU := zU_i (i := 116) (by decide +kernel) (by decide +kernel)
theorem zw_118 : (Jvm.Cond.lays "BalanceRoom$Acts" "BalanceRoom$Acts" "oldest" "I") ∈ zU := zU_i (i := 118) (by decide +kernel) (by decide +kernel)
theorem zw_120 : (Jvm.Cond.lays "BalanceRoom$Acts" "BalanceRoom$Acts" "size" "I") ∈ zU := zU_i (i := 120) (by decide +kernel) (by decide +kernel)
theorem zw_123 : (Jvm.Cond.classLink "BalanceRoom" (41 : Nat) "BalanceRoom$Fit") ∈ zU := zU_i (i := 123) (by decide +kernel) (by decide +kernel)
theorem zw_124 : (Jvm.Cond.instantiable "BalanceRoom$Fit" (7 : Nat)) ∈ zU := zU_i (i := 124) (by decide +kernel) (by decide +kernel)
theorem zl_125 : (Jvm.Cond.methodLinkNest "BalanceRoom" (43 : Nat) ({ cls := "BalanceRoom$Fit", name := "<init>", desc := "()V" } : Jvm.MethodName) "BalanceRoom") ∈ lw_tbl := List.mem_of_getElem? (i := 125) (by decide +kernel)
theorem zw_126 : (Jvm.Cond.instanceMethod ({ cls := "BalanceRoom$Fit", name := "<init>", desc := "()V" } : Jvm.MethodName)) ∈ zU := zU_i (i := 126) (by decide +kernel) (by decide +kernel)
set_option maxRecDepth 100000 in
theorem zw_127 : (Jvm.Cond.code ({ cls := "BalanceRoom$Fit", name := "<init>", desc := "()V" } : Jvm.MethodName) prog_3_method_1_code (1 : Nat) (Option.none : Option Jvm.ClassFile.FieldType)) ∈ zU := zU_i (i := 127) (rfl) (by decide +kernel)
theorem zw_128 : (Jvm.Cond.methodLink "BalanceRoom$Fit" (3 : Nat) ({ cls := "java/lang/Object", name := "<init>", desc := "()V" } : Jvm.MethodName)) ∈ zU := zU_i (i := 128) (by decide +kernel) (by decide +kernel)
theorem zw_129 : (Jvm.Cond.classLink "BalanceRoom$Fit" (9 : Nat) "[[J") ∈ zU := zU_i (i := 129) (by decide +kernel) (by decide +kernel)
theorem zl_130 : (Jvm.Cond.arrayOver (Jvm.ClassFile.FieldType.array Jvm.ClassFile.FieldType.long)) ∈ lw_tbl := List.mem_of_getElem? (i := 130) (by decide +kernel)
theorem zw_131 : (Jvm.Cond.fieldLink "BalanceRoom$Fit" (11 : Nat) "BalanceRoom$Fit" "sums" "[[J") ∈ zU := zU_i (i := 131) (by decide +kernel) (by decide +kernel)
theorem zw_132 : (Jvm.Cond.fieldLink "BalanceRoom$Fit" (16 : Nat) "BalanceRoom$Fit" "swept" "[[J") ∈ zU := zU_i (i := 132) (by decide +kernel) (by decide +kernel)
theorem zw_133 : (Jvm.Cond.fieldLink "BalanceRoom$Fit" (19 : Nat) "BalanceRoom$Fit" "line" "[J") ∈ zU := zU_i (i := 133) (by decide +kernel) (by decide +kernel)
theorem zw_134 : (Jvm.Cond.fieldLink "BalanceRoom$Fit" (23 : Nat) "BalanceRoom$Fit" "withDrift" "Z") ∈ zU := zU_i (i := 134) (by decide +kernel) (by decide +kernel)
theorem zw_135 : (Jvm.Cond.fieldLink "BalanceRoom$Fit" (27 : Nat) "BalanceRoom$Fit" "weightsHere" "I") ∈ zU := zU_i (i := 135) (by decide +kernel) (by decide +kernel)
theorem zw_136 : (Jvm.Cond.fieldLink "BalanceRoom$Fit" (31 : Nat) "BalanceRoom$Fit" "unknownsHere" "I") ∈ zU := zU_i (i := 136) (by decide +kernel) (by decide +kernel)
theorem zw_137 : (Jvm.Cond.fieldLink "BalanceRoom$Fit" (34 : Nat) "BalanceRoom$Fit" "below" "J") ∈ zU := zU_i (i := 137) (by decide +kernel) (by decide +kernel)
theorem zw_138 : (Jvm.Cond.fieldLink "BalanceRoom" (145 : Nat) "BalanceRoom$Fit" "below" "J") ∈ zU := zU_i (i := 138) (by decide +kernel) (by decide +kernel)
theorem zw_139 : (Jvm.Cond.laysFinal "BalanceRoom$Fit" "BalanceRoom$Fit" "sums" "[[J") ∈ zU := zU_i (i := 139) (by decide +kernel) (by decide +kernel)
theorem zw_141 : (Jvm.Cond.laysFinal "BalanceRoom$Fit" "BalanceRoom$Fit" "swept" "[[J") ∈ zU := zU_i (i := 141) (by decide +kernel) (by decide +kernel)
theorem zw_143 : (Jvm.Cond.laysFinal "BalanceRoom$Fit" "BalanceRoom$Fit" "line" "[J") ∈ zU := zU_i (i := 143) (by decide +kernel) (by decide +kernel)
theorem zw_145 : (Jvm.Cond.lays "BalanceRoom$Fit" "BalanceRoom$Fit" "withDrift" "Z") ∈ zU := zU_i (i := 145) (by decide +kernel) (by decide +kernel)
theorem zw_147 : (Jvm.Cond.lays "BalanceRoom$Fit" "BalanceRoom$Fit" "weightsHere" "I") ∈ zU := zU_i (i := 147) (by decide +kernel) (by decide +kernel)
theorem zw_149 : (Jvm.Cond.lays "BalanceRoom$Fit" "BalanceRoom$Fit" "unknownsHere" "I") ∈ zU := zU_i (i := 149) (by decide +kernel) (by decide +kernel)
theorem zw_151 : (Jvm.Cond.lays "BalanceRoom$Fit" "BalanceRoom$Fit" "below" "J") ∈ zU := zU_i (i := 151) (by decide +kernel) (by decide +kernel)
theorem zw_154 : (Jvm.Cond.arrayClass Jvm.ClassFile.FieldType.boolean) ∈ zU := zU_i (i := 154) (by decide +kernel) (by decide +kernel)
theorem zw_155 : (Jvm.Cond.arrayClass Jvm.ClassFile.FieldType.long) ∈ zU := zU_i (i := 155) (by decide +kernel) (by decide +kernel)
theorem zw_156 : (Jvm.Cond.classLink "BalanceRoom" (48 : Nat) "BalanceRoom$Ranks") ∈ zU := zU_i (i := 156) (by decide +kernel) (by decide +kernel)
theorem zw_157 : (Jvm.Cond.instantiable "BalanceRoom$Ranks" (3 : Nat)) ∈ zU := zU_i (i := 157) (by decide +kernel) (by decide +kernel)
theorem zl_158 : (Jvm.Cond.methodLinkNest "BalanceRoom" (50 : Nat) ({ cls := "BalanceRoom$Ranks", name := "<init>", desc := "()V" } : Jvm.MethodName) "BalanceRoom") ∈ lw_tbl := List.mem_of_getElem? (i := 158) (by decide +kernel)
theorem zw_159 : (Jvm.Cond.instanceMethod ({ cls := "BalanceRoom$Ranks", name := "<init>", desc := "()V" } : Jvm.MethodName)) ∈ zU := zU_i (i := 159) (by decide +kernel) (by decide +kernel)
set_option maxRecDepth 100000 in
theorem zw_160 : (Jvm.Cond.code ({ cls := "BalanceRoom$Ranks", name := "<init>", desc := "()V" } : Jvm.MethodName) prog_4_method_1_code (1 : Nat) (Option.none : Option Jvm.ClassFile.FieldType)) ∈ zU := zU_i (i := 160) (rfl) (by decide +kernel)
theorem zw_161 : (Jvm.Cond.methodLink "BalanceRoom$Ranks" (3 : Nat) ({ cls := "java/lang/Object", name := "<init>", desc := "()V" } : Jvm.MethodName)) ∈ zU := zU_i (i := 161) (by decide +kernel) (by decide +kernel)
theorem zw_162 : (Jvm.Cond.classLink "BalanceRoom$Ranks" (9 : Nat) "[[J") ∈ zU := zU_i (i := 162) (by decide +kernel) (by decide +kernel)
theorem zw_163 : (Jvm.Cond.fieldLink "BalanceRoom$Ranks" (11 : Nat) "BalanceRoom$Ranks" "basis" "[[J") ∈ zU := zU_i (i := 163) (by decide +kernel) (by decide +kernel)
theorem zw_164 : (Jvm.Cond.fieldLink "BalanceRoom$Ranks" (16 : Nat) "BalanceRoom$Ranks" "leads" "[I") ∈ zU := zU_i (i := 164) (by decide +kernel) (by decide +kernel)
theorem zw_165 : (Jvm.Cond.fieldLink "BalanceRoom$Ranks" (20 : Nat) "BalanceRoom$Ranks" "ofSet" "[I") ∈ zU := zU_i (i := 165) (by decide +kernel) (by decide +kernel)
theorem zw_166 : (Jvm.Cond.fieldLink "BalanceRoom" (202 : Nat) "BalanceRoom$Ranks" "ofSet" "[I") ∈ zU := zU_i (i := 166) (by decide +kernel) (by decide +kernel)
theorem zw_167 : (Jvm.Cond.laysFinal "BalanceRoom$Ranks" "BalanceRoom$Ranks" "basis" "[[J") ∈ zU := zU_i (i := 167) (by decide +kernel) (by decide +kernel)
theorem zw_169 : (Jvm.Cond.laysFinal "BalanceRoom$Ranks" "BalanceRoom$Ranks" "leads" "[I") ∈ zU := zU_i (i := 169) (by decide +kernel) (by decide +kernel)
theorem zw_171 : (Jvm.Cond.laysFinal "BalanceRoom$Ranks" "BalanceRoom$Ranks" "ofSet" "[I") ∈ zU := zU_i (i := 171) (by decide +kernel) (by decide +kernel)
theorem zw_174 : (Jvm.Cond.fieldLink "BalanceRoom" (10 : Nat) "BalanceRoom" "text" "LBalanceRoom$Text;") ∈ zU := zU_i (i := 174) (by decide +kernel) (by decide +kernel)
theorem zw_175 : (Jvm.Cond.fieldLink "BalanceRoom" (19 : Nat) "BalanceRoom" "here" "LBalanceRoom$Room;") ∈ zU := zU_i (i := 175) (by decide +kernel) (by decide +kernel)
theorem zw_176 : (Jvm.Cond.fieldLink "BalanceRoom" (23 : Nat) "BalanceRoom" "trial" "LBalanceRoom$Room;") ∈ zU := zU_i (i := 176) (by decide +kernel) (by decide +kernel)
theorem zw_177 : (Jvm.Cond.fieldLink "BalanceRoom" (29 : Nat) "BalanceRoom" "acts" "LBalanceRoom$Acts;") ∈ zU := zU_i (i := 177) (by decide +kernel) (by decide +kernel)
theorem zw_178 : (Jvm.Cond.fieldLink "BalanceRoom" (33 : Nat) "BalanceRoom" "slots" "[LBalanceRoom$Room;") ∈ zU := zU_i (i := 178) (by decide +kernel) (by decide +kernel)
theorem zw_179 : (Jvm.Cond.fieldLink "BalanceRoom" (37 : Nat) "BalanceRoom" "filled" "[Z") ∈ zU := zU_i (i := 179) (by decide +kernel) (by decide +kernel)
theorem zw_180 : (Jvm.Cond.fieldLink "BalanceRoom" (44 : Nat) "BalanceRoom" "fit" "LBalanceRoom$Fit;") ∈ zU := zU_i (i := 180) (by decide +kernel) (by decide +kernel)
theorem zw_181 : (Jvm.Cond.fieldLink "BalanceRoom" (51 : Nat) "BalanceRoom" "ranks" "LBalanceRoom$Ranks;") ∈ zU := zU_i (i := 181) (by decide +kernel) (by decide +kernel)
theorem zw_182 : (Jvm.Cond.fieldLink "BalanceRoom" (55 : Nat) "BalanceRoom" "seedNow" "J") ∈ zU := zU_i (i := 182) (by decide +kernel) (by decide +kernel)
theorem zw_183 : (Jvm.Cond.laysFinal "BalanceRoom" "BalanceRoom" "text" "LBalanceRoom$Text;") ∈ zU := zU_i (i := 183) (by decide +kernel) (by decide +kernel)
theorem zw_185 : (Jvm.Cond.laysFinal "BalanceRoom" "BalanceRoom" "here" "LBalanceRoom$Room;") ∈ zU := zU_i (i := 185) (by decide +kernel) (by decide +kernel)
theorem zw_187 : (Jvm.Cond.laysFinal "BalanceRoom" "BalanceRoom" "trial" "LBalanceRoom$Room;") ∈ zU := zU_i (i := 187) (by decide +kernel) (by decide +kernel)
theorem zw_189 : (Jvm.Cond.laysFinal "BalanceRoom" "BalanceRoom" "acts" "LBalanceRoom$Acts;") ∈ zU := zU_i (i := 189) (by decide +kernel) (by decide +kernel)
theorem zw_191 : (Jvm.Cond.laysFinal "BalanceRoom" "BalanceRoom" "slots" "[LBalanceRoom$Room;") ∈ zU := zU_i (i := 191) (by decide +kernel) (by decide +kernel)
theorem zw_193 : (Jvm.Cond.laysFinal "BalanceRoom" "BalanceRoom" "filled" "[Z") ∈ zU := zU_i (i := 193) (by decide +kernel) (by decide +kernel)
theorem zw_195 : (Jvm.Cond.laysFinal "BalanceRoom" "BalanceRoom" "fit" "LBalanceRoom$Fit;") ∈ zU := zU_i (i := 195) (by decide +kernel) (by decide +kernel)
theorem zw_197 : (Jvm.Cond.laysFinal "BalanceRoom" "BalanceRoom" "ranks" "LBalanceRoom$Ranks;") ∈ zU := zU_i (i := 197) (by decide +kernel) (by decide +kernel)
theorem zw_199 : (Jvm.Cond.lays "BalanceRoom" "BalanceRoom" "seedNow" "J") ∈ zU := zU_i (i := 199) (by decide +kernel) (by decide +kernel)
theorem zw_202 : (Jvm.Cond.methodLink "BalanceRoomLaw" (13 : Nat) ({ cls := "BalanceRoom", name := "write", desc := "(I)I" } : Jvm.MethodName)) ∈ zU := zU_i (i := 202) (by decide +kernel) (by decide +kernel)
theorem zw_203 : (Jvm.Cond.instanceMethod ({ cls := "BalanceRoom", name := "write", desc := "(I)I" } : Jvm.MethodName)) ∈ zU := zU_i (i := 203) (by decide +kernel) (by decide +kernel)
theorem zw_204 : (Jvm.Cond.selects "BalanceRoom" ({ cls := "BalanceRoom", name := "write", desc := "(I)I" } : Jvm.MethodName) ({ cls := "BalanceRoom", name := "write", desc := "(I)I" } : Jvm.MethodName)) ∈ zU := zU_i (i := 204) (by decide +kernel) (by decide +kernel)
set_option maxRecDepth 100000 in
theorem zw_205 : (Jvm.Cond.code ({ cls := "BalanceRoom", name := "write", desc := "(I)I" } : Jvm.MethodName) prog_1_method_2_code (2 : Nat) (Option.some Jvm.ClassFile.FieldType.int)) ∈ zU := zU_i (i := 205) (rfl) (by decide +kernel)
theorem zw_206 : (Jvm.Cond.methodLink "BalanceRoomLaw" (18 : Nat) ({ cls := "BalanceRoom", name := "wipe", desc := "()I" } : Jvm.MethodName)) ∈ zU := zU_i (i := 206) (by decide +kernel) (by decide +kernel)
theorem zw_207 : (Jvm.Cond.instanceMethod ({ cls := "BalanceRoom", name := "wipe", desc := "()I" } : Jvm.MethodName)) ∈ zU := zU_i (i := 207) (by decide +kernel) (by decide +kernel)
theorem zw_208 : (Jvm.Cond.selects "BalanceRoom" ({ cls := "BalanceRoom", name := "wipe", desc := "()I" } : Jvm.MethodName) ({ cls := "BalanceRoom", name := "wipe", desc := "()I" } : Jvm.MethodName)) ∈ zU := zU_i (i := 208) (by decide +kernel) (by decide +kernel)
set_option maxRecDepth 100000 in
theorem zw_209 : (Jvm.Cond.code ({ cls := "BalanceRoom", name := "wipe", desc := "()I" } : Jvm.MethodName) prog_1_method_3_code (2 : Nat) (Option.some Jvm.ClassFile.FieldType.int)) ∈ zU := zU_i (i := 209) (rfl) (by decide +kernel)
theorem zw_210 : (Jvm.Cond.methodLink "BalanceRoomLaw" (23 : Nat) ({ cls := "BalanceRoom", name := "fault", desc := "()I" } : Jvm.MethodName)) ∈ zU := zU_i (i := 210) (by decide +kernel) (by decide +kernel)
theorem zw_211 : (Jvm.Cond.instanceMethod ({ cls := "BalanceRoom", name := "fault", desc := "()I" } : Jvm.MethodName)) ∈ zU := zU_i (i := 211) (by decide +kernel) (by decide +kernel)
theorem zw_212 : (Jvm.Cond.selects "BalanceRoom" ({ cls := "BalanceRoom", name := "fault", desc := "()I" } : Jvm.MethodName) ({ cls := "BalanceRoom", name := "fault", desc := "()I" } : Jvm.MethodName)) ∈ zU := zU_i (i := 212) (by decide +kernel) (by decide +kernel)
set_option maxRecDepth 100000 in
theorem zw_213 : (Jvm.Cond.code ({ cls := "BalanceRoom", name := "fault", desc := "()I" } : Jvm.MethodName) prog_1_method_4_code (1 : Nat) (Option.some Jvm.ClassFile.FieldType.int)) ∈ zU := zU_i (i := 213) (rfl) (by decide +kernel)
theorem zw_214 : (Jvm.Cond.methodLink "BalanceRoom" (67 : Nat) ({ cls := "BalanceRoom$Text", name := "faultPlace", desc := "()I" } : Jvm.MethodName)) ∈ zU := zU_i (i := 214) (by decide +kernel) (by decide +kernel)
theorem zw_215 : (Jvm.Cond.instanceMethod ({ cls := "BalanceRoom$Text", name := "faultPlace", desc := "()I" } : Jvm.MethodName)) ∈ zU := zU_i (i := 215) (by decide +kernel) (by decide +kernel)
theorem zw_216 : (Jvm.Cond.selects "BalanceRoom$Text" ({ cls := "BalanceRoom$Text", name := "faultPlace", desc := "()I" } : Jvm.MethodName) ({ cls := "BalanceRoom$Text", name := "faultPlace", desc := "()I" } : Jvm.MethodName)) ∈ zU := zU_i (i := 216) (by decide +kernel) (by decide +kernel)
set_option maxRecDepth 100000 in
theorem zw_217 : (Jvm.Cond.code ({ cls := "BalanceRoom$Text", name := "faultPlace", desc := "()I" } : Jvm.MethodName) prog_6_method_2_code (2 : Nat) (Option.some Jvm.ClassFile.FieldType.int)) ∈ zU := zU_i (i := 217) (rfl) (by decide +kernel)
theorem zw_218 : (Jvm.Cond.methodLink "BalanceRoom$Text" (19 : Nat) ({ cls := "BalanceRoom$Text", name := "fits", desc := "(I)Z" } : Jvm.MethodName)) ∈ zU := zU_i (i := 218) (by decide +kernel) (by decide +kernel)
theorem zw_220 : (Jvm.Cond.instanceMethod ({ cls := "BalanceRoom$Text", name := "fits", desc := "(I)Z" } : Jvm.MethodName)) ∈ zU := zU_i (i := 220) (by decide +kernel) (by decide +kernel)
set_option maxRecDepth 100000 in
theorem zw_221 : (Jvm.Cond.code ({ cls := "BalanceRoom$Text", name := "fits", desc := "(I)Z" } : Jvm.MethodName) prog_6_method_3_code (5 : Nat) (Option.some Jvm.ClassFile.FieldType.boolean)) ∈ zU := zU_i (i := 221) (rfl) (by decide +kernel)
theorem zw_222 : (Jvm.Cond.methodLink "BalanceRoom$Text" (27 : Nat) ({ cls := "BalanceRoom$Text", name := "isFigure", desc := "(I)Z" } : Jvm.MethodName)) ∈ zU := zU_i (i := 222) (by decide +kernel) (by decide +kernel)
theorem zw_223 : (Jvm.Cond.static ({ cls := "BalanceRoom$Text", name := "isFigure", desc := "(I)Z" } : Jvm.MethodName)) ∈ zU := zU_i (i := 223) (by decide +kernel) (by decide +kernel)
set_option maxRecDepth 100000 in
theorem zw_224 : (Jvm.Cond.code ({ cls := "BalanceRoom$Text", name := "isFigure", desc := "(I)Z" } : Jvm.MethodName) prog_6_method_4_code (1 : Nat) (Option.some Jvm.ClassFile.FieldType.boolean)) ∈ zU := zU_i (i := 224) (rfl) (by decide +kernel)
theorem zw_225 : (Jvm.Cond.methodLink "BalanceRoom$Text" (23 : Nat) ({ cls := "BalanceRoom$Text", name := "lettersEach", desc := "()I" } : Jvm.MethodName)) ∈ zU := zU_i (i := 225) (by decide +kernel) (by decide +kernel)
theorem zw_226 : (Jvm.Cond.instanceMethod ({ cls := "BalanceRoom$Text", name := "lettersEach", desc := "()I" } : Jvm.MethodName)) ∈ zU := zU_i (i := 226) (by decide +kernel) (by decide +kernel)
theorem zw_227 : (Jvm.Cond.selects "BalanceRoom$Text" ({ cls := "BalanceRoom$Text", name := "lettersEach", desc := "()I" } : Jvm.MethodName) ({ cls := "BalanceRoom$Text", name := "lettersEach", desc := "()I" } : Jvm.MethodName)) ∈ zU := zU_i (i := 227) (by decide +kernel) (by decide +kernel)
set_option maxRecDepth 100000 in
theorem zw_228 : (Jvm.Cond.code ({ cls := "BalanceRoom$Text", name := "lettersEach", desc := "()I" } : Jvm.MethodName) prog_6_method_7_code (1 : Nat) (Option.some Jvm.ClassFile.FieldType.int)) ∈ zU := zU_i (i := 228) (rfl) (by decide +kernel)
theorem zw_229 : (Jvm.Cond.methodLink "BalanceRoom$Text" (30 : Nat) ({ cls := "BalanceRoom$Text", name := "weightsTold", desc := "()I" } : Jvm.MethodName)) ∈ zU := zU_i (i := 229) (by decide +kernel) (by decide +kernel)
theorem zw_230 : (Jvm.Cond.instanceMethod ({ cls := "BalanceRoom$Text", name := "weightsTold", desc := "()I" } : Jvm.MethodName)) ∈ zU := zU_i (i := 230) (by decide +kernel) (by decide +kernel)
theorem zw_231 : (Jvm.Cond.selects "BalanceRoom$Text" ({ cls := "BalanceRoom$Text", name := "weightsTold", desc := "()I" } : Jvm.MethodName) ({ cls := "BalanceRoom$Text", name := "weightsTold", desc := "()I" } : Jvm.MethodName)) ∈ zU := zU_i (i := 231) (by decide +kernel) (by decide +kernel)
set_option maxRecDepth 100000 in
theorem zw_232 : (Jvm.Cond.code ({ cls := "BalanceRoom$Text", name := "weightsTold", desc := "()I" } : Jvm.MethodName) prog_6_method_6_code (2 : Nat) (Option.some Jvm.ClassFile.FieldType.int)) ∈ zU := zU_i (i := 232) (rfl) (by decide +kernel)
theorem zw_233 : (Jvm.Cond.methodLink "BalanceRoom$Text" (33 : Nat) ({ cls := "BalanceRoom$Text", name := "isSign", desc := "(I)Z" } : Jvm.MethodName)) ∈ zU := zU_i (i := 233) (by decide +kernel) (by decide +kernel)
theorem zw_234 : (Jvm.Cond.static ({ cls := "BalanceRoom$Text", name := "isSign", desc := "(I)Z" } : Jvm.MethodName)) ∈ zU := zU_i (i := 234) (by decide +kernel) (by decide +kernel)
set_option maxRecDepth 100000 in
theorem zw_235 : (Jvm.Cond.code ({ cls := "BalanceRoom$Text", name := "isSign", desc := "(I)Z" } : Jvm.MethodName) prog_6_method_5_code (1 : Nat) (Option.some Jvm.ClassFile.FieldType.boolean)) ∈ zU := zU_i (i := 235) (rfl) (by decide +kernel)
theorem zw_236 : (Jvm.Cond.methodLink "BalanceRoomLaw" (27 : Nat) ({ cls := "BalanceRoom", name := "room", desc := "()I" } : Jvm.MethodName)) ∈ zU := zU_i (i := 236) (by decide +kernel) (by decide +kernel)
theorem zw_237 : (Jvm.Cond.instanceMethod ({ cls := "BalanceRoom", name := "room", desc := "()I" } : Jvm.MethodName)) ∈ zU := zU_i (i := 237) (by decide +kernel) (by decide +kernel)
theorem zw_238 : (Jvm.Cond.selects "BalanceRoom" ({ cls := "BalanceRoom", name := "room", desc := "()I" } : Jvm.MethodName) ({ cls := "BalanceRoom", name := "room", desc := "()I" } : Jvm.MethodName)) ∈ zU := zU_i (i := 238) (by decide +kernel) (by decide +kernel)
set_option maxRecDepth 100000 in
theorem zw_239 : (Jvm.Cond.code ({ cls := "BalanceRoom", name := "room", desc := "()I" } : Jvm.MethodName) prog_1_method_5_code (2 : Nat) (Option.some Jvm.ClassFile.FieldType.int)) ∈ zU := zU_i (i := 239) (rfl) (by decide +kernel)
theorem zw_240 : (Jvm.Cond.methodLink "BalanceRoom" (71 : Nat) ({ cls := "BalanceRoom$Room", name := "takeFrom", desc := "(LBalanceRoom$Text;)V" } : Jvm.MethodName)) ∈ zU := zU_i (i := 240) (by decide +kernel) (by decide +kernel)
theorem zw_241 : (Jvm.Cond.instanceMethod ({ cls := "BalanceRoom$Room", name := "takeFrom", desc := "(LBalanceRoom$Text;)V" } : Jvm.MethodName)) ∈ zU := zU_i (i := 241) (by decide +kernel) (by decide +kernel)
theorem zw_242 : (Jvm.Cond.selects "BalanceRoom$Room" ({ cls := "BalanceRoom$Room", name := "takeFrom", desc := "(LBalanceRoom$Text;)V" } : Jvm.MethodName) ({ cls := "BalanceRoom$Room", name := "takeFrom", desc := "(LBalanceRoom$Text;)V" } : Jvm.MethodName)) ∈ zU := zU_i (i := 242) (by decide +kernel) (by decide +kernel)
set_option maxRecDepth 100000 in
theorem zw_243 : (Jvm.Cond.code ({ cls := "BalanceRoom$Room", name := "takeFrom", desc := "(LBalanceRoom$Text;)V" } : Jvm.MethodName) prog_5_method_3_code (3 : Nat) (Option.none : Option Jvm.ClassFile.FieldType)) ∈ zU := zU_i (i := 243) (rfl) (by decide +kernel)
theorem zw_244 : (Jvm.Cond.methodLink "BalanceRoom$Room" (34 : Nat) ({ cls := "BalanceRoom$Text", name := "weightsTold", desc := "()I" } : Jvm.MethodName)) ∈ zU := zU_i (i := 244) (by decide +kernel) (by decide +kernel)
theorem zw_245 : (Jvm.Cond.methodLink "BalanceRoom$Room" (40 : Nat) ({ cls := "BalanceRoom$Text", name := "masterTold", desc := "()I" } : Jvm.MethodName)) ∈ zU := zU_i (i := 245) (by decide +kernel) (by decide +kernel)
theorem zw_246 : (Jvm.Cond.instanceMethod ({ cls := "BalanceRoom$Text", name := "masterTold", desc := "()I" } : Jvm.MethodName)) ∈ zU := zU_i (i := 246) (by decide +kernel) (by decide +kernel)
theorem zw_247 : (Jvm.Cond.selects "BalanceRoom$Text" ({ cls := "BalanceRoom$Text", name := "masterTold", desc := "()I" } : Jvm.MethodName) ({ cls := "BalanceRoom$Text", name := "masterTold", desc := "()I" } : Jvm.MethodName)) ∈ zU := zU_i (i := 247) (by decide +kernel) (by decide +kernel)
set_option maxRecDepth 100000 in
theorem zw_248 : (Jvm.Cond.code ({ cls := "BalanceRoom$Text", name := "masterTold", desc := "()I" } : Jvm.MethodName) prog_6_method_9_code (1 : Nat) (Option.some Jvm.ClassFile.FieldType.int)) ∈ zU := zU_i (i := 248) (rfl) (by decide +kernel)
theorem zw_249 : (Jvm.Cond.methodLink "BalanceRoom$Text" (36 : Nat) ({ cls := "BalanceRoom$Text", name := "figureAt", desc := "(I)I" } : Jvm.MethodName)) ∈ zU := zU_i (i := 249) (by decide +kernel) (by decide +kernel)
theorem zw_251 : (Jvm.Cond.instanceMethod ({ cls := "BalanceRoom$Text", name := "figureAt", desc := "(I)I" } : Jvm.MethodName)) ∈ zU := zU_i (i := 251) (by decide +kernel) (by decide +kernel)
set_option maxRecDepth 100000 in
theorem zw_252 : (Jvm.Cond.code ({ cls := "BalanceRoom$Text", name := "figureAt", desc := "(I)I" } : Jvm.MethodName) prog_6_method_13_code (2 : Nat) (Option.some Jvm.ClassFile.FieldType.int)) ∈ zU := zU_i (i := 252) (rfl) (by decide +kernel)
theorem zw_253 : (Jvm.Cond.methodLink "BalanceRoom$Room" (43 : Nat) ({ cls := "BalanceRoom$Text", name := "weighingsTold", desc := "()I" } : Jvm.MethodName)) ∈ zU := zU_i (i := 253) (by decide +kernel) (by decide +kernel)
theorem zw_254 : (Jvm.Cond.instanceMethod ({ cls := "BalanceRoom$Text", name := "weighingsTold", desc := "()I" } : Jvm.MethodName)) ∈ zU := zU_i (i := 254) (by decide +kernel) (by decide +kernel)
theorem zw_255 : (Jvm.Cond.selects "BalanceRoom$Text" ({ cls := "BalanceRoom$Text", name := "weighingsTold", desc := "()I" } : Jvm.MethodName) ({ cls := "BalanceRoom$Text", name := "weighingsTold", desc := "()I" } : Jvm.MethodName)) ∈ zU := zU_i (i := 255) (by decide +kernel) (by decide +kernel)
set_option maxRecDepth 100000 in
theorem zw_256 : (Jvm.Cond.code ({ cls := "BalanceRoom$Text", name := "weighingsTold", desc := "()I" } : Jvm.MethodName) prog_6_method_8_code (1 : Nat) (Option.some Jvm.ClassFile.FieldType.int)) ∈ zU := zU_i (i := 256) (rfl) (by decide +kernel)
theorem zw_257 : (Jvm.Cond.methodLink "BalanceRoom$Room" (46 : Nat) ({ cls := "java/lang/Math", name := "min", desc := "(II)I" } : Jvm.MethodName)) ∈ zU := zU_i (i := 257) (by decide +kernel) (by decide +kernel)
theorem zw_258 : (Jvm.Cond.static ({ cls := "java/lang/Math", name := "min", desc := "(II)I" } : Jvm.MethodName)) ∈ zU := zU_i (i := 258) (by decide +kernel) (by decide +kernel)
set_option maxRecDepth 100000 in
theorem zw_259 : (Jvm.Cond.code ({ cls := "java/lang/Math", name := "min", desc := "(II)I" } : Jvm.MethodName) prog_10_method_69_code (2 : Nat) (Option.some Jvm.ClassFile.FieldType.int)) ∈ zU := zU_i (i := 259) (rfl) (by decide +kernel)
theorem zw_260 : (Jvm.Cond.methodLink "BalanceRoom$Room" (52 : Nat) ({ cls := "BalanceRoom$Text", name := "codeTold", desc := "(I)I" } : Jvm.MethodName)) ∈ zU := zU_i (i := 260) (by decide +kernel) (by decide +kernel)
theorem zw_261 : (Jvm.Cond.instanceMethod ({ cls := "BalanceRoom$Text", name := "codeTold", desc := "(I)I" } : Jvm.MethodName)) ∈ zU := zU_i (i := 261) (by decide +kernel) (by decide +kernel)
theorem zw_262 : (Jvm.Cond.selects "BalanceRoom$Text" ({ cls := "BalanceRoom$Text", name := "codeTold", desc := "(I)I" } : Jvm.MethodName) ({ cls := "BalanceRoom$Text", name := "codeTold", desc := "(I)I" } : Jvm.MethodName)) ∈ zU := zU_i (i := 262) (by decide +kernel) (by decide +kernel)
set_option maxRecDepth 100000 in
theorem zw_263 : (Jvm.Cond.code ({ cls := "BalanceRoom$Text", name := "codeTold", desc := "(I)I" } : Jvm.MethodName) prog_6_method_10_code (6 : Nat) (Option.some Jvm.ClassFile.FieldType.int)) ∈ zU := zU_i (i := 263) (rfl) (by decide +kernel)
theorem zw_264 : (Jvm.Cond.methodLink "BalanceRoom$Text" (40 : Nat) ({ cls := "BalanceRoom$Text", name := "startOf", desc := "(I)I" } : Jvm.MethodName)) ∈ zU := zU_i (i := 264) (by decide +kernel) (by decide +kernel)
theorem zw_266 : (Jvm.Cond.instanceMethod ({ cls := "BalanceRoom$Text", name := "startOf", desc := "(I)I" } : Jvm.MethodName)) ∈ zU := zU_i (i := 266) (by decide +kernel) (by decide +kernel)
set_option maxRecDepth 100000 in
theorem zw_267 : (Jvm.Cond.code ({ cls := "BalanceRoom$Text", name := "startOf", desc := "(I)I" } : Jvm.MethodName) prog_6_method_12_code (2 : Nat) (Option.some Jvm.ClassFile.FieldType.int)) ∈ zU := zU_i (i := 267) (rfl) (by decide +kernel)
theorem zw_268 : (Jvm.Cond.methodLink "BalanceRoom$Room" (56 : Nat) ({ cls := "BalanceRoom$Text", name := "readingTold", desc := "(I)I" } : Jvm.MethodName)) ∈ zU := zU_i (i := 268) (by decide +kernel) (by decide +kernel)
theorem zw_269 : (Jvm.Cond.instanceMethod ({ cls := "BalanceRoom$Text", name := "readingTold", desc := "(I)I" } : Jvm.MethodName)) ∈ zU := zU_i (i := 269) (by decide +kernel) (by decide +kernel)
theorem zw_270 : (Jvm.Cond.selects "BalanceRoom$Text" ({ cls := "BalanceRoom$Text", name := "readingTold", desc := "(I)I" } : Jvm.MethodName) ({ cls := "BalanceRoom$Text", name := "readingTold", desc := "(I)I" } : Jvm.MethodName)) ∈ zU := zU_i (i := 270) (by decide +kernel) (by decide +kernel)
set_option maxRecDepth 100000 in
theorem zw_271 : (Jvm.Cond.code ({ cls := "BalanceRoom$Text", name := "readingTold", desc := "(I)I" } : Jvm.MethodName) prog_6_method_11_code (4 : Nat) (Option.some Jvm.ClassFile.FieldType.int)) ∈ zU := zU_i (i := 271) (rfl) (by decide +kernel)
theorem zw_272 : (Jvm.Cond.methodLink "BalanceRoom" (75 : Nat) ({ cls := "BalanceRoom$Acts", name := "forgetAll", desc := "()V" } : Jvm.MethodName)) ∈ zU := zU_i (i := 272) (by decide +kernel) (by decide +kernel)
theorem zw_273 : (Jvm.Cond.instanceMethod ({ cls := "BalanceRoom$Acts", name := "forgetAll", desc := "()V" } : Jvm.MethodName)) ∈ zU := zU_i (i := 273) (by decide +kernel) (by decide +kernel)
theorem zw_274 : (Jvm.Cond.selects "BalanceRoom$Acts" ({ cls := "BalanceRoom$Acts", name := "forgetAll", desc := "()V" } : Jvm.MethodName) ({ cls := "BalanceRoom$Acts", name := "forgetAll", desc := "()V" } : Jvm.MethodName)) ∈ zU := zU_i (i := 274) (by decide +kernel) (by decide +kernel)
set_option maxRecDepth 100000 in
theorem zw_275 : (Jvm.Cond.code ({ cls := "BalanceRoom$Acts", name := "forgetAll", desc := "()V" } : Jvm.MethodName) prog_2_method_4_code (1 : Nat) (Option.none : Option Jvm.ClassFile.FieldType)) ∈ zU := zU_i (i := 275) (rfl) (by decide +kernel)
theorem zw_276 : (Jvm.Cond.methodLink "BalanceRoomLaw" (31 : Nat) ({ cls := "BalanceRoom", name := "code", desc := "(I)I" } : Jvm.MethodName)) ∈ zU := zU_i (i := 276) (by decide +kernel) (by decide +kernel)
theorem zw_277 : (Jvm.Cond.instanceMethod ({ cls := "BalanceRoom", name := "code", desc := "(I)I" } : Jvm.MethodName)) ∈ zU := zU_i (i := 277) (by decide +kernel) (by decide +kernel)
theorem zw_278 : (Jvm.Cond.selects "BalanceRoom" ({ cls := "BalanceRoom", name := "code", desc := "(I)I" } : Jvm.MethodName) ({ cls := "BalanceRoom", name := "code", desc := "(I)I" } : Jvm.MethodName)) ∈ zU := zU_i (i := 278) (by decide +kernel) (by decide +kernel)
set_option maxRecDepth 100000 in
theorem zw_279 : (Jvm.Cond.code ({ cls := "BalanceRoom", name := "code", desc := "(I)I" } : Jvm.MethodName) prog_1_method_6_code (2 : Nat) (Option.some Jvm.ClassFile.FieldType.int)) ∈ zU := zU_i (i := 279) (rfl) (by decide +kernel)
theorem zw_280 : (Jvm.Cond.methodLink "BalanceRoom" (81 : Nat) ({ cls := "BalanceRoom$Room", name := "has", desc := "(I)Z" } : Jvm.MethodName)) ∈ zU := zU_i (i := 280) (by decide +kernel) (by decide +kernel)
theorem zw_281 : (Jvm.Cond.instanceMethod ({ cls := "BalanceRoom$Room", name := "has", desc := "(I)Z" } : Jvm.MethodName)) ∈ zU := zU_i (i := 281) (by decide +kernel) (by decide +kernel)
theorem zw_282 : (Jvm.Cond.selects "BalanceRoom$Room" ({ cls := "BalanceRoom$Room", name := "has", desc := "(I)Z" } : Jvm.MethodName) ({ cls := "BalanceRoom$Room", name := "has", desc := "(I)Z" } : Jvm.MethodName)) ∈ zU := zU_i (i := 282) (by decide +kernel) (by decide +kernel)
set_option maxRecDepth 100000 in
theorem zw_283 : (Jvm.Cond.code ({ cls := "BalanceRoom$Room", name := "has", desc := "(I)Z" } : Jvm.MethodName) prog_5_method_4_code (2 : Nat) (Option.some Jvm.ClassFile.FieldType.boolean)) ∈ zU := zU_i (i := 283) (rfl) (by decide +kernel)
theorem zw_284 : (Jvm.Cond.methodLink "BalanceRoomLaw" (35 : Nat) ({ cls := "BalanceRoom", name := "reading", desc := "(I)I" } : Jvm.MethodName)) ∈ zU := zU_i (i := 284) (by decide +kernel) (by decide +kernel)
theorem zw_285 : (Jvm.Cond.instanceMethod ({ cls := "BalanceRoom", name := "reading", desc := "(I)I" } : Jvm.MethodName)) ∈ zU := zU_i (i := 285) (by decide +kernel) (by decide +kernel)
theorem zw_286 : (Jvm.Cond.selects "BalanceRoom" ({ cls := "BalanceRoom", name := "reading", desc := "(I)I" } : Jvm.MethodName) ({ cls := "BalanceRoom", name := "reading", desc := "(I)I" } : Jvm.MethodName)) ∈ zU := zU_i (i := 286) (by decide +kernel) (by decide +kernel)
set_option maxRecDepth 100000 in
theorem zw_287 : (Jvm.Cond.code ({ cls := "BalanceRoom", name := "reading", desc := "(I)I" } : Jvm.MethodName) prog_1_method_7_code (2 : Nat) (Option.some Jvm.ClassFile.FieldType.int)) ∈ zU := zU_i (i := 287) (rfl) (by decide +kernel)
theorem zw_288 : (Jvm.Cond.methodLink "BalanceRoomLaw" (39 : Nat) ({ cls := "BalanceRoom", name := "weigh", desc := "(II)I" } : Jvm.MethodName)) ∈ zU := zU_i (i := 288) (by decide +kernel) (by decide +kernel)
theorem zw_289 : (Jvm.Cond.instanceMethod ({ cls := "BalanceRoom", name := "weigh", desc := "(II)I" } : Jvm.MethodName)) ∈ zU := zU_i (i := 289) (by decide +kernel) (by decide +kernel)
theorem zw_290 : (Jvm.Cond.selects "BalanceRoom" ({ cls := "BalanceRoom", name := "weigh", desc := "(II)I" } : Jvm.MethodName) ({ cls := "BalanceRoom", name := "weigh", desc := "(II)I" } : Jvm.MethodName)) ∈ zU := zU_i (i := 290) (by decide +kernel) (by decide +kernel)
set_option maxRecDepth 100000 in
theorem zw_291 : (Jvm.Cond.code ({ cls := "BalanceRoom", name := "weigh", desc := "(II)I" } : Jvm.MethodName) prog_1_method_8_code (3 : Nat) (Option.some Jvm.ClassFile.FieldType.int)) ∈ zU := zU_i (i := 291) (rfl) (by decide +kernel)
theorem zw_292 : (Jvm.Cond.methodLink "BalanceRoom" (94 : Nat) ({ cls := "BalanceRoom", name := "isCode", desc := "(II)Z" } : Jvm.MethodName)) ∈ zU := zU_i (i := 292) (by decide +kernel) (by decide +kernel)
theorem zw_293 : (Jvm.Cond.static ({ cls := "BalanceRoom", name := "isCode", desc := "(II)Z" } : Jvm.MethodName)) ∈ zU := zU_i (i := 293) (by decide +kernel) (by decide +kernel)
set_option maxRecDepth 100000 in
theorem zw_294 : (Jvm.Cond.code ({ cls := "BalanceRoom", name := "isCode", desc := "(II)Z" } : Jvm.MethodName) prog_1_method_38_code (4 : Nat) (Option.some Jvm.ClassFile.FieldType.boolean)) ∈ zU := zU_i (i := 294) (rfl) (by decide +kernel)
theorem zw_295 : (Jvm.Cond.methodLink "BalanceRoom" (98 : Nat) ({ cls := "BalanceRoom", name := "isReading", desc := "(I)Z" } : Jvm.MethodName)) ∈ zU := zU_i (i := 295) (by decide +kernel) (by decide +kernel)
theorem zw_296 : (Jvm.Cond.static ({ cls := "BalanceRoom", name := "isReading", desc := "(I)Z" } : Jvm.MethodName)) ∈ zU := zU_i (i := 296) (by decide +kernel) (by decide +kernel)
set_option maxRecDepth 100000 in
theorem zw_297 : (Jvm.Cond.code ({ cls := "BalanceRoom", name := "isReading", desc := "(I)Z" } : Jvm.MethodName) prog_1_method_37_code (1 : Nat) (Option.some Jvm.ClassFile.FieldType.boolean)) ∈ zU := zU_i (i := 297) (rfl) (by decide +kernel)
theorem zw_298 : (Jvm.Cond.methodLink "BalanceRoom" (101 : Nat) ({ cls := "BalanceRoom$Acts", name := "remember", desc := "(LBalanceRoom$Room;)V" } : Jvm.MethodName)) ∈ zU := zU_i (i := 298) (by decide +kernel) (by decide +kernel)
theorem zw_299 : (Jvm.Cond.instanceMethod ({ cls := "BalanceRoom$Acts", name := "remember", desc := "(LBalanceRoom$Room;)V" } : Jvm.MethodName)) ∈ zU := zU_i (i := 299) (by decide +kernel) (by decide +kernel)
theorem zw_300 : (Jvm.Cond.selects "BalanceRoom$Acts" ({ cls := "BalanceRoom$Acts", name := "remember", desc := "(LBalanceRoom$Room;)V" } : Jvm.MethodName) ({ cls := "BalanceRoom$Acts", name := "remember", desc := "(LBalanceRoom$Room;)V" } : Jvm.MethodName)) ∈ zU := zU_i (i := 300) (by decide +kernel) (by decide +kernel)
set_option maxRecDepth 100000 in
theorem zw_301 : (Jvm.Cond.code ({ cls := "BalanceRoom$Acts", name := "remember", desc := "(LBalanceRoom$Room;)V" } : Jvm.MethodName) prog_2_method_2_code (2 : Nat) (Option.none : Option Jvm.ClassFile.FieldType)) ∈ zU := zU_i (i := 301) (rfl) (by decide +kernel)
theorem zw_302 : (Jvm.Cond.methodLink "BalanceRoom$Acts" (25 : Nat) ({ cls := "BalanceRoom$Room", name := "copy", desc := "(LBalanceRoom$Room;)V" } : Jvm.MethodName)) ∈ zU := zU_i (i := 302) (by decide +kernel) (by decide +kernel)
theorem zw_303 : (Jvm.Cond.instanceMethod ({ cls := "BalanceRoom$Room", name := "copy", desc := "(LBalanceRoom$Room;)V" } : Jvm.MethodName)) ∈ zU := zU_i (i := 303) (by decide +kernel) (by decide +kernel)
theorem zw_304 : (Jvm.Cond.selects "BalanceRoom$Room" ({ cls := "BalanceRoom$Room", name := "copy", desc := "(LBalanceRoom$Room;)V" } : Jvm.MethodName) ({ cls := "BalanceRoom$Room", name := "copy", desc := "(LBalanceRoom$Room;)V" } : Jvm.MethodName)) ∈ zU := zU_i (i := 304) (by decide +kernel) (by decide +kernel)
set_option maxRecDepth 100000 in
theorem zw_305 : (Jvm.Cond.code ({ cls := "BalanceRoom$Room", name := "copy", desc := "(LBalanceRoom$Room;)V" } : Jvm.MethodName) prog_5_method_2_code (2 : Nat) (Option.none : Option Jvm.ClassFile.FieldType)) ∈ zU := zU_i (i := 305) (rfl) (by decide +kernel)
theorem zw_306 : (Jvm.Cond.methodLink "BalanceRoom$Room" (28 : Nat) ({ cls := "java/lang/System", name := "arraycopy", desc := "(Ljava/lang/Object;ILjava/lang/Object;II)V" } : Jvm.MethodName)) ∈ zU := zU_i (i := 306) (by decide +kernel) (by decide +kernel)
theorem zw_307 : (Jvm.Cond.static ({ cls := "java/lang/System", name := "arraycopy", desc := "(Ljava/lang/Object;ILjava/lang/Object;II)V" } : Jvm.MethodName)) ∈ zU := zU_i (i := 307) (by decide +kernel) (by decide +kernel)
theorem zw_308 : (Jvm.Cond.native ({ cls := "java/lang/System", name := "arraycopy", desc := "(Ljava/lang/Object;ILjava/lang/Object;II)V" } : Jvm.MethodName)) ∈ zU := zU_i (i := 308) (by decide +kernel) (by decide +kernel)
theorem zw_309 : (Jvm.Cond.methodLink "BalanceRoom" (105 : Nat) ({ cls := "BalanceRoom$Room", name := "append", desc := "(II)V" } : Jvm.MethodName)) ∈ zU := zU_i (i := 309) (by decide +kernel) (by decide +kernel)
theorem zw_310 : (Jvm.Cond.instanceMethod ({ cls := "BalanceRoom$Room", name := "append", desc := "(II)V" } : Jvm.MethodName)) ∈ zU := zU_i (i := 310) (by decide +kernel) (by decide +kernel)
theorem zw_311 : (Jvm.Cond.selects "BalanceRoom$Room" ({ cls := "BalanceRoom$Room", name := "append", desc := "(II)V" } : Jvm.MethodName) ({ cls := "BalanceRoom$Room", name := "append", desc := "(II)V" } : Jvm.MethodName)) ∈ zU := zU_i (i := 311) (by decide +kernel) (by decide +kernel)
set_option maxRecDepth 100000 in
theorem zw_312 : (Jvm.Cond.code ({ cls := "BalanceRoom$Room", name := "append", desc := "(II)V" } : Jvm.MethodName) prog_5_method_7_code (3 : Nat) (Option.none : Option Jvm.ClassFile.FieldType)) ∈ zU := zU_i (i := 312) (rfl) (by decide +kernel)
theorem zw_313 : (Jvm.Cond.methodLink "BalanceRoomLaw" (44 : Nat) ({ cls := "BalanceRoom", name := "take", desc := "(I)I" } : Jvm.MethodName)) ∈ zU := zU_i (i := 313) (by decide +kernel) (by decide +kernel)
theorem zw_314 : (Jvm.Cond.instanceMethod ({ cls := "BalanceRoom", name := "take", desc := "(I)I" } : Jvm.MethodName)) ∈ zU := zU_i (i := 314) (by decide +kernel) (by decide +kernel)
theorem zw_315 : (Jvm.Cond.selects "BalanceRoom" ({ cls := "BalanceRoom", name := "take", desc := "(I)I" } : Jvm.MethodName) ({ cls := "BalanceRoom", name := "take", desc := "(I)I" } : Jvm.MethodName)) ∈ zU := zU_i (i := 315) (by decide +kernel) (by decide +kernel)
set_option maxRecDepth 100000 in
theorem zw_316 : (Jvm.Cond.code ({ cls := "BalanceRoom", name := "take", desc := "(I)I" } : Jvm.MethodName) prog_1_method_9_code (2 : Nat) (Option.some Jvm.ClassFile.FieldType.int)) ∈ zU := zU_i (i := 316) (rfl) (by decide +kernel)
theorem zw_317 : (Jvm.Cond.methodLink "BalanceRoom" (109 : Nat) ({ cls := "BalanceRoom$Room", name := "remove", desc := "(I)V" } : Jvm.MethodName)) ∈ zU := zU_i (i := 317) (by decide +kernel) (by decide +kernel)
theorem zw_318 : (Jvm.Cond.instanceMethod ({ cls := "BalanceRoom$Room", name := "remove", desc := "(I)V" } : Jvm.MethodName)) ∈ zU := zU_i (i := 318) (by decide +kernel) (by decide +kernel)
theorem zw_319 : (Jvm.Cond.selects "BalanceRoom$Room" ({ cls := "BalanceRoom$Room", name := "remove", desc := "(I)V" } : Jvm.MethodName) ({ cls := "BalanceRoom$Room", name := "remove", desc := "(I)V" } : Jvm.MethodName)) ∈ zU := zU_i (i := 319) (by decide +kernel) (by decide +kernel)
set_option maxRecDepth 100000 in
theorem zw_320 : (Jvm.Cond.code ({ cls := "BalanceRoom$Room", name := "remove", desc := "(I)V" } : Jvm.MethodName) prog_5_method_8_code (3 : Nat) (Option.none : Option Jvm.ClassFile.FieldType)) ∈ zU := zU_i (i := 320) (rfl) (by decide +kernel)
theorem zw_321 : (Jvm.Cond.methodLink "BalanceRoomLaw" (48 : Nat) ({ cls := "BalanceRoom", name := "swap", desc := "(II)I" } : Jvm.MethodName)) ∈ zU := zU_i (i := 321) (by decide +kernel) (by decide +kernel)
theorem zw_322 : (Jvm.Cond.instanceMethod ({ cls := "BalanceRoom", name := "swap", desc := "(II)I" } : Jvm.MethodName)) ∈ zU := zU_i (i := 322) (by decide +kernel) (by decide +kernel)
theorem zw_323 : (Jvm.Cond.selects "BalanceRoom" ({ cls := "BalanceRoom", name := "swap", desc := "(II)I" } : Jvm.MethodName) ({ cls := "BalanceRoom", name := "swap", desc := "(II)I" } : Jvm.MethodName)) ∈ zU := zU_i (i := 323) (by decide +kernel) (by decide +kernel)
set_option maxRecDepth 100000 in
theorem zw_324 : (Jvm.Cond.code ({ cls := "BalanceRoom", name := "swap", desc := "(II)I" } : Jvm.MethodName) prog_1_method_10_code (3 : Nat) (Option.some Jvm.ClassFile.FieldType.int)) ∈ zU := zU_i (i := 324) (rfl) (by decide +kernel)
theorem zw_325 : (Jvm.Cond.methodLink "BalanceRoom" (113 : Nat) ({ cls := "BalanceRoom$Room", name := "exchange", desc := "(II)V" } : Jvm.MethodName)) ∈ zU := zU_i (i := 325) (by decide +kernel) (by decide +kernel)
theorem zw_326 : (Jvm.Cond.instanceMethod ({ cls := "BalanceRoom$Room", name := "exchange", desc := "(II)V" } : Jvm.MethodName)) ∈ zU := zU_i (i := 326) (by decide +kernel) (by decide +kernel)
theorem zw_327 : (Jvm.Cond.selects "BalanceRoom$Room" ({ cls := "BalanceRoom$Room", name := "exchange", desc := "(II)V" } : Jvm.MethodName) ({ cls := "BalanceRoom$Room", name := "exchange", desc := "(II)V" } : Jvm.MethodName)) ∈ zU := zU_i (i := 327) (by decide +kernel) (by decide +kernel)
set_option maxRecDepth 100000 in
theorem zw_328 : (Jvm.Cond.code ({ cls := "BalanceRoom$Room", name := "exchange", desc := "(II)V" } : Jvm.MethodName) prog_5_method_9_code (5 : Nat) (Option.none : Option Jvm.ClassFile.FieldType)) ∈ zU := zU_i (i := 328) (rfl) (by decide +kernel)
theorem zw_329 : (Jvm.Cond.methodLink "BalanceRoomLaw" (52 : Nat) ({ cls := "BalanceRoom", name := "read", desc := "(II)I" } : Jvm.MethodName)) ∈ zU := zU_i (i := 329) (by decide +kernel) (by decide +kernel)
theorem zw_330 : (Jvm.Cond.instanceMethod ({ cls := "BalanceRoom", name := "read", desc := "(II)I" } : Jvm.MethodName)) ∈ zU := zU_i (i := 330) (by decide +kernel) (by decide +kernel)
theorem zw_331 : (Jvm.Cond.selects "BalanceRoom" ({ cls := "BalanceRoom", name := "read", desc := "(II)I" } : Jvm.MethodName) ({ cls := "BalanceRoom", name := "read", desc := "(II)I" } : Jvm.MethodName)) ∈ zU := zU_i (i := 331) (by decide +kernel) (by decide +kernel)
set_option maxRecDepth 100000 in
theorem zw_332 : (Jvm.Cond.code ({ cls := "BalanceRoom", name := "read", desc := "(II)I" } : Jvm.MethodName) prog_1_method_11_code (4 : Nat) (Option.some Jvm.ClassFile.FieldType.int)) ∈ zU := zU_i (i := 332) (rfl) (by decide +kernel)
theorem zw_333 : (Jvm.Cond.methodLink "BalanceRoomLaw" (56 : Nat) ({ cls := "BalanceRoom", name := "master", desc := "(I)I" } : Jvm.MethodName)) ∈ zU := zU_i (i := 333) (by decide +kernel) (by decide +kernel)
theorem zw_334 : (Jvm.Cond.instanceMethod ({ cls := "BalanceRoom", name := "master", desc := "(I)I" } : Jvm.MethodName)) ∈ zU := zU_i (i := 334) (by decide +kernel) (by decide +kernel)
theorem zw_335 : (Jvm.Cond.selects "BalanceRoom" ({ cls := "BalanceRoom", name := "master", desc := "(I)I" } : Jvm.MethodName) ({ cls := "BalanceRoom", name := "master", desc := "(I)I" } : Jvm.MethodName)) ∈ zU := zU_i (i := 335) (by decide +kernel) (by decide +kernel)
set_option maxRecDepth 100000 in
theorem zw_336 : (Jvm.Cond.code ({ cls := "BalanceRoom", name := "master", desc := "(I)I" } : Jvm.MethodName) prog_1_method_12_code (3 : Nat) (Option.some Jvm.ClassFile.FieldType.int)) ∈ zU := zU_i (i := 336) (rfl) (by decide +kernel)
theorem zw_337 : (Jvm.Cond.methodLink "BalanceRoomLaw" (60 : Nat) ({ cls := "BalanceRoom", name := "undo", desc := "()I" } : Jvm.MethodName)) ∈ zU := zU_i (i := 337) (by decide +kernel) (by decide +kernel)
theorem zw_338 : (Jvm.Cond.instanceMethod ({ cls := "BalanceRoom", name := "undo", desc := "()I" } : Jvm.MethodName)) ∈ zU := zU_i (i := 338) (by decide +kernel) (by decide +kernel)
theorem zw_339 : (Jvm.Cond.selects "BalanceRoom" ({ cls := "BalanceRoom", name := "undo", desc := "()I" } : Jvm.MethodName) ({ cls := "BalanceRoom", name := "undo", desc := "()I" } : Jvm.MethodName)) ∈ zU := zU_i (i := 339) (by decide +kernel) (by decide +kernel)
set_option maxRecDepth 100000 in
theorem zw_340 : (Jvm.Cond.code ({ cls := "BalanceRoom", name := "undo", desc := "()I" } : Jvm.MethodName) prog_1_method_13_code (1 : Nat) (Option.some Jvm.ClassFile.FieldType.int)) ∈ zU := zU_i (i := 340) (rfl) (by decide +kernel)
theorem zw_341 : (Jvm.Cond.methodLink "BalanceRoom" (122 : Nat) ({ cls := "BalanceRoom$Acts", name := "takeBack", desc := "(LBalanceRoom$Room;)V" } : Jvm.MethodName)) ∈ zU := zU_i (i := 341) (by decide +kernel) (by decide +kernel)
theorem zw_342 : (Jvm.Cond.instanceMethod ({ cls := "BalanceRoom$Acts", name := "takeBack", desc := "(LBalanceRoom$Room;)V" } : Jvm.MethodName)) ∈ zU := zU_i (i := 342) (by decide +kernel) (by decide +kernel)
theorem zw_343 : (Jvm.Cond.selects "BalanceRoom$Acts" ({ cls := "BalanceRoom$Acts", name := "takeBack", desc := "(LBalanceRoom$Room;)V" } : Jvm.MethodName) ({ cls := "BalanceRoom$Acts", name := "takeBack", desc := "(LBalanceRoom$Room;)V" } : Jvm.MethodName)) ∈ zU := zU_i (i := 343) (by decide +kernel) (by decide +kernel)
set_option maxRecDepth 100000 in
theorem zw_344 : (Jvm.Cond.code ({ cls := "BalanceRoom$Acts", name := "takeBack", desc := "(LBalanceRoom$Room;)V" } : Jvm.MethodName) prog_2_method_3_code (2 : Nat) (Option.none : Option Jvm.ClassFile.FieldType)) ∈ zU := zU_i (i := 344) (rfl) (by decide +kernel)
theorem zw_345 : (Jvm.Cond.methodLink "BalanceRoomLaw" (64 : Nat) ({ cls := "BalanceRoom", name := "rank", desc := "(Z)I" } : Jvm.MethodName)) ∈ zU := zU_i (i := 345) (by decide +kernel) (by decide +kernel)
theorem zw_346 : (Jvm.Cond.instanceMethod ({ cls := "BalanceRoom", name := "rank", desc := "(Z)I" } : Jvm.MethodName)) ∈ zU := zU_i (i := 346) (by decide +kernel) (by decide +kernel)
theorem zw_347 : (Jvm.Cond.selects "BalanceRoom" ({ cls := "BalanceRoom", name := "rank", desc := "(Z)I" } : Jvm.MethodName) ({ cls := "BalanceRoom", name := "rank", desc := "(Z)I" } : Jvm.MethodName)) ∈ zU := zU_i (i := 347) (by decide +kernel) (by decide +kernel)
set_option maxRecDepth 100000 in
theorem zw_348 : (Jvm.Cond.code ({ cls := "BalanceRoom", name := "rank", desc := "(Z)I" } : Jvm.MethodName) prog_1_method_14_code (2 : Nat) (Option.some Jvm.ClassFile.FieldType.int)) ∈ zU := zU_i (i := 348) (rfl) (by decide +kernel)
theorem zw_349 : (Jvm.Cond.methodLink "BalanceRoom" (125 : Nat) ({ cls := "BalanceRoom$Ranks", name := "ofAll", desc := "(LBalanceRoom$Room;Z)I" } : Jvm.MethodName)) ∈ zU := zU_i (i := 349) (by decide +kernel) (by decide +kernel)
theorem zw_350 : (Jvm.Cond.instanceMethod ({ cls := "BalanceRoom$Ranks", name := "ofAll", desc := "(LBalanceRoom$Room;Z)I" } : Jvm.MethodName)) ∈ zU := zU_i (i := 350) (by decide +kernel) (by decide +kernel)
theorem zw_351 : (Jvm.Cond.selects "BalanceRoom$Ranks" ({ cls := "BalanceRoom$Ranks", name := "ofAll", desc := "(LBalanceRoom$Room;Z)I" } : Jvm.MethodName) ({ cls := "BalanceRoom$Ranks", name := "ofAll", desc := "(LBalanceRoom$Room;Z)I" } : Jvm.MethodName)) ∈ zU := zU_i (i := 351) (by decide +kernel) (by decide +kernel)
set_option maxRecDepth 100000 in
theorem zw_352 : (Jvm.Cond.code ({ cls := "BalanceRoom$Ranks", name := "ofAll", desc := "(LBalanceRoom$Room;Z)I" } : Jvm.MethodName) prog_4_method_2_code (5 : Nat) (Option.some Jvm.ClassFile.FieldType.int)) ∈ zU := zU_i (i := 352) (rfl) (by decide +kernel)
theorem zw_353 : (Jvm.Cond.methodLink "BalanceRoom$Ranks" (29 : Nat) ({ cls := "BalanceRoom$Ranks", name := "extended", desc := "(ILBalanceRoom$Room;IZ)I" } : Jvm.MethodName)) ∈ zU := zU_i (i := 353) (by decide +kernel) (by decide +kernel)
theorem zw_355 : (Jvm.Cond.instanceMethod ({ cls := "BalanceRoom$Ranks", name := "extended", desc := "(ILBalanceRoom$Room;IZ)I" } : Jvm.MethodName)) ∈ zU := zU_i (i := 355) (by decide +kernel) (by decide +kernel)
set_option maxRecDepth 100000 in
theorem zw_356 : (Jvm.Cond.code ({ cls := "BalanceRoom$Ranks", name := "extended", desc := "(ILBalanceRoom$Room;IZ)I" } : Jvm.MethodName) prog_4_method_4_code (8 : Nat) (Option.some Jvm.ClassFile.FieldType.int)) ∈ zU := zU_i (i := 356) (rfl) (by decide +kernel)
theorem zw_357 : (Jvm.Cond.methodLink "BalanceRoom$Ranks" (39 : Nat) ({ cls := "BalanceRoom$Room", name := "unknowns", desc := "(Z)I" } : Jvm.MethodName)) ∈ zU := zU_i (i := 357) (by decide +kernel) (by decide +kernel)
theorem zw_358 : (Jvm.Cond.instanceMethod ({ cls := "BalanceRoom$Room", name := "unknowns", desc := "(Z)I" } : Jvm.MethodName)) ∈ zU := zU_i (i := 358) (by decide +kernel) (by decide +kernel)
theorem zw_359 : (Jvm.Cond.selects "BalanceRoom$Room" ({ cls := "BalanceRoom$Room", name := "unknowns", desc := "(Z)I" } : Jvm.MethodName) ({ cls := "BalanceRoom$Room", name := "unknowns", desc := "(Z)I" } : Jvm.MethodName)) ∈ zU := zU_i (i := 359) (by decide +kernel) (by decide +kernel)
set_option maxRecDepth 100000 in
theorem zw_360 : (Jvm.Cond.code ({ cls := "BalanceRoom$Room", name := "unknowns", desc := "(Z)I" } : Jvm.MethodName) prog_5_method_5_code (2 : Nat) (Option.some Jvm.ClassFile.FieldType.int)) ∈ zU := zU_i (i := 360) (rfl) (by decide +kernel)
theorem zw_361 : (Jvm.Cond.methodLink "BalanceRoom$Ranks" (43 : Nat) ({ cls := "BalanceRoom$Room", name := "layOut", desc := "(IZ[J)V" } : Jvm.MethodName)) ∈ zU := zU_i (i := 361) (by decide +kernel) (by decide +kernel)
theorem zw_362 : (Jvm.Cond.instanceMethod ({ cls := "BalanceRoom$Room", name := "layOut", desc := "(IZ[J)V" } : Jvm.MethodName)) ∈ zU := zU_i (i := 362) (by decide +kernel) (by decide +kernel)
theorem zw_363 : (Jvm.Cond.selects "BalanceRoom$Room" ({ cls := "BalanceRoom$Room", name := "layOut", desc := "(IZ[J)V" } : Jvm.MethodName) ({ cls := "BalanceRoom$Room", name := "layOut", desc := "(IZ[J)V" } : Jvm.MethodName)) ∈ zU := zU_i (i := 363) (by decide +kernel) (by decide +kernel)
set_option maxRecDepth 100000 in
theorem zw_364 : (Jvm.Cond.code ({ cls := "BalanceRoom$Room", name := "layOut", desc := "(IZ[J)V" } : Jvm.MethodName) prog_5_method_10_code (6 : Nat) (Option.none : Option Jvm.ClassFile.FieldType)) ∈ zU := zU_i (i := 364) (rfl) (by decide +kernel)
theorem zw_365 : (Jvm.Cond.methodLink "BalanceRoom$Room" (63 : Nat) ({ cls := "BalanceRoom$Room", name := "signOf", desc := "(I)I" } : Jvm.MethodName)) ∈ zU := zU_i (i := 365) (by decide +kernel) (by decide +kernel)
theorem zw_366 : (Jvm.Cond.static ({ cls := "BalanceRoom$Room", name := "signOf", desc := "(I)I" } : Jvm.MethodName)) ∈ zU := zU_i (i := 366) (by decide +kernel) (by decide +kernel)
set_option maxRecDepth 100000 in
theorem zw_367 : (Jvm.Cond.code ({ cls := "BalanceRoom$Room", name := "signOf", desc := "(I)I" } : Jvm.MethodName) prog_5_method_11_code (1 : Nat) (Option.some Jvm.ClassFile.FieldType.int)) ∈ zU := zU_i (i := 367) (rfl) (by decide +kernel)
theorem zw_368 : (Jvm.Cond.methodLink "BalanceRoom$Room" (59 : Nat) ({ cls := "BalanceRoom$Room", name := "unknowns", desc := "(Z)I" } : Jvm.MethodName)) ∈ zU := zU_i (i := 368) (by decide +kernel) (by decide +kernel)
theorem zw_369 : (Jvm.Cond.methodLink "BalanceRoom$Ranks" (47 : Nat) ({ cls := "BalanceRoom$Ranks", name := "reduce", desc := "([J[JII)V" } : Jvm.MethodName)) ∈ zU := zU_i (i := 369) (by decide +kernel) (by decide +kernel)
theorem zw_370 : (Jvm.Cond.static ({ cls := "BalanceRoom$Ranks", name := "reduce", desc := "([J[JII)V" } : Jvm.MethodName)) ∈ zU := zU_i (i := 370) (by decide +kernel) (by decide +kernel)
set_option maxRecDepth 100000 in
theorem zw_371 : (Jvm.Cond.code ({ cls := "BalanceRoom$Ranks", name := "reduce", desc := "([J[JII)V" } : Jvm.MethodName) prog_4_method_5_code (9 : Nat) (Option.none : Option Jvm.ClassFile.FieldType)) ∈ zU := zU_i (i := 371) (rfl) (by decide +kernel)
theorem zw_372 : (Jvm.Cond.methodLink "BalanceRoomLaw" (69 : Nat) ({ cls := "BalanceRoom", name := "value", desc := "(IZZ)J" } : Jvm.MethodName)) ∈ zU := zU_i (i := 372) (by decide +kernel) (by decide +kernel)
theorem zw_373 : (Jvm.Cond.instanceMethod ({ cls := "BalanceRoom", name := "value", desc := "(IZZ)J" } : Jvm.MethodName)) ∈ zU := zU_i (i := 373) (by decide +kernel) (by decide +kernel)
theorem zw_374 : (Jvm.Cond.selects "BalanceRoom" ({ cls := "BalanceRoom", name := "value", desc := "(IZZ)J" } : Jvm.MethodName) ({ cls := "BalanceRoom", name := "value", desc := "(IZZ)J" } : Jvm.MethodName)) ∈ zU := zU_i (i := 374) (by decide +kernel) (by decide +kernel)
set_option maxRecDepth 100000 in
theorem zw_375 : (Jvm.Cond.code ({ cls := "BalanceRoom", name := "value", desc := "(IZZ)J" } : Jvm.MethodName) prog_1_method_15_code (4 : Nat) (Option.some Jvm.ClassFile.FieldType.long)) ∈ zU := zU_i (i := 375) (rfl) (by decide +kernel)
theorem zw_376 : (Jvm.Cond.methodLink "BalanceRoom" (129 : Nat) ({ cls := "BalanceRoom$Room", name := "hasUnknown", desc := "(IZ)Z" } : Jvm.MethodName)) ∈ zU := zU_i (i := 376) (by decide +kernel) (by decide +kernel)
theorem zw_377 : (Jvm.Cond.instanceMethod ({ cls := "BalanceRoom$Room", name := "hasUnknown", desc := "(IZ)Z" } : Jvm.MethodName)) ∈ zU := zU_i (i := 377) (by decide +kernel) (by decide +kernel)
theorem zw_378 : (Jvm.Cond.selects "BalanceRoom$Room" ({ cls := "BalanceRoom$Room", name := "hasUnknown", desc := "(IZ)Z" } : Jvm.MethodName) ({ cls := "BalanceRoom$Room", name := "hasUnknown", desc := "(IZ)Z" } : Jvm.MethodName)) ∈ zU := zU_i (i := 378) (by decide +kernel) (by decide +kernel)
set_option maxRecDepth 100000 in
theorem zw_379 : (Jvm.Cond.code ({ cls := "BalanceRoom$Room", name := "hasUnknown", desc := "(IZ)Z" } : Jvm.MethodName) prog_5_method_6_code (3 : Nat) (Option.some Jvm.ClassFile.FieldType.boolean)) ∈ zU := zU_i (i := 379) (rfl) (by decide +kernel)
theorem zw_380 : (Jvm.Cond.constantLong "BalanceRoom" (133 : Nat) (-1 : Int64)) ∈ zU := zU_i (i := 380) (by decide +kernel) (by decide +kernel)
theorem zw_381 : (Jvm.Cond.methodLink "BalanceRoom" (135 : Nat) ({ cls := "BalanceRoom$Fit", name := "solves", desc := "(LBalanceRoom$Room;Z)Z" } : Jvm.MethodName)) ∈ zU := zU_i (i := 381) (by decide +kernel) (by decide +kernel)
theorem zw_382 : (Jvm.Cond.instanceMethod ({ cls := "BalanceRoom$Fit", name := "solves", desc := "(LBalanceRoom$Room;Z)Z" } : Jvm.MethodName)) ∈ zU := zU_i (i := 382) (by decide +kernel) (by decide +kernel)
theorem zw_383 : (Jvm.Cond.selects "BalanceRoom$Fit" ({ cls := "BalanceRoom$Fit", name := "solves", desc := "(LBalanceRoom$Room;Z)Z" } : Jvm.MethodName) ({ cls := "BalanceRoom$Fit", name := "solves", desc := "(LBalanceRoom$Room;Z)Z" } : Jvm.MethodName)) ∈ zU := zU_i (i := 383) (by decide +kernel) (by decide +kernel)
set_option maxRecDepth 100000 in
theorem zw_384 : (Jvm.Cond.code ({ cls := "BalanceRoom$Fit", name := "solves", desc := "(LBalanceRoom$Room;Z)Z" } : Jvm.MethodName) prog_3_method_2_code (3 : Nat) (Option.some Jvm.ClassFile.FieldType.boolean)) ∈ zU := zU_i (i := 384) (rfl) (by decide +kernel)
theorem zw_385 : (Jvm.Cond.methodLink "BalanceRoom$Fit" (38 : Nat) ({ cls := "BalanceRoom$Fit", name := "gather", desc := "(LBalanceRoom$Room;Z)V" } : Jvm.MethodName)) ∈ zU := zU_i (i := 385) (by decide +kernel) (by decide +kernel)
theorem zw_386 : (Jvm.Cond.instanceMethod ({ cls := "BalanceRoom$Fit", name := "gather", desc := "(LBalanceRoom$Room;Z)V" } : Jvm.MethodName)) ∈ zU := zU_i (i := 386) (by decide +kernel) (by decide +kernel)
theorem zw_387 : (Jvm.Cond.selects "BalanceRoom$Fit" ({ cls := "BalanceRoom$Fit", name := "gather", desc := "(LBalanceRoom$Room;Z)V" } : Jvm.MethodName) ({ cls := "BalanceRoom$Fit", name := "gather", desc := "(LBalanceRoom$Room;Z)V" } : Jvm.MethodName)) ∈ zU := zU_i (i := 387) (by decide +kernel) (by decide +kernel)
set_option maxRecDepth 100000 in
theorem zw_388 : (Jvm.Cond.code ({ cls := "BalanceRoom$Fit", name := "gather", desc := "(LBalanceRoom$Room;Z)V" } : Jvm.MethodName) prog_3_method_5_code (5 : Nat) (Option.none : Option Jvm.ClassFile.FieldType)) ∈ zU := zU_i (i := 388) (rfl) (by decide +kernel)
theorem zw_389 : (Jvm.Cond.methodLink "BalanceRoom$Fit" (55 : Nat) ({ cls := "BalanceRoom$Room", name := "unknowns", desc := "(Z)I" } : Jvm.MethodName)) ∈ zU := zU_i (i := 389) (by decide +kernel) (by decide +kernel)
theorem zw_390 : (Jvm.Cond.methodLink "BalanceRoom$Fit" (46 : Nat) ({ cls := "BalanceRoom$Fit", name := "put", desc := "(LBalanceRoom$Room;II)V" } : Jvm.MethodName)) ∈ zU := zU_i (i := 390) (by decide +kernel) (by decide +kernel)
theorem zw_392 : (Jvm.Cond.instanceMethod ({ cls := "BalanceRoom$Fit", name := "put", desc := "(LBalanceRoom$Room;II)V" } : Jvm.MethodName)) ∈ zU := zU_i (i := 392) (by decide +kernel) (by decide +kernel)
set_option maxRecDepth 100000 in
theorem zw_393 : (Jvm.Cond.code ({ cls := "BalanceRoom$Fit", name := "put", desc := "(LBalanceRoom$Room;II)V" } : Jvm.MethodName) prog_3_method_6_code (8 : Nat) (Option.none : Option Jvm.ClassFile.FieldType)) ∈ zU := zU_i (i := 393) (rfl) (by decide +kernel)
theorem zw_394 : (Jvm.Cond.methodLink "BalanceRoom$Fit" (62 : Nat) ({ cls := "BalanceRoom$Room", name := "layOut", desc := "(IZ[J)V" } : Jvm.MethodName)) ∈ zU := zU_i (i := 394) (by decide +kernel) (by decide +kernel)
theorem zw_395 : (Jvm.Cond.methodLink "BalanceRoom$Fit" (42 : Nat) ({ cls := "BalanceRoom$Fit", name := "sweepAll", desc := "(Z)Z" } : Jvm.MethodName)) ∈ zU := zU_i (i := 395) (by decide +kernel) (by decide +kernel)
theorem zw_397 : (Jvm.Cond.instanceMethod ({ cls := "BalanceRoom$Fit", name := "sweepAll", desc := "(Z)Z" } : Jvm.MethodName)) ∈ zU := zU_i (i := 397) (by decide +kernel) (by decide +kernel)
set_option maxRecDepth 100000 in
theorem zw_398 : (Jvm.Cond.code ({ cls := "BalanceRoom$Fit", name := "sweepAll", desc := "(Z)Z" } : Jvm.MethodName) prog_3_method_7_code (3 : Nat) (Option.some Jvm.ClassFile.FieldType.boolean)) ∈ zU := zU_i (i := 398) (rfl) (by decide +kernel)
theorem zw_399 : (Jvm.Cond.methodLink "BalanceRoom$Fit" (66 : Nat) ({ cls := "java/lang/System", name := "arraycopy", desc := "(Ljava/lang/Object;ILjava/lang/Object;II)V" } : Jvm.MethodName)) ∈ zU := zU_i (i := 399) (by decide +kernel) (by decide +kernel)
theorem zw_400 : (Jvm.Cond.methodLink "BalanceRoom$Fit" (72 : Nat) ({ cls := "BalanceRoom$Fit", name := "sweep", desc := "(II)V" } : Jvm.MethodName)) ∈ zU := zU_i (i := 400) (by decide +kernel) (by decide +kernel)
theorem zw_402 : (Jvm.Cond.instanceMethod ({ cls := "BalanceRoom$Fit", name := "sweep", desc := "(II)V" } : Jvm.MethodName)) ∈ zU := zU_i (i := 402) (by decide +kernel) (by decide +kernel)
set_option maxRecDepth 100000 in
theorem zw_403 : (Jvm.Cond.code ({ cls := "BalanceRoom$Fit", name := "sweep", desc := "(II)V" } : Jvm.MethodName) prog_3_method_8_code (6 : Nat) (Option.none : Option Jvm.ClassFile.FieldType)) ∈ zU := zU_i (i := 403) (rfl) (by decide +kernel)
theorem zw_404 : (Jvm.Cond.methodLink "BalanceRoom$Fit" (76 : Nat) ({ cls := "BalanceRoom$Fit", name := "sweepRow", desc := "(IIJ)V" } : Jvm.MethodName)) ∈ zU := zU_i (i := 404) (by decide +kernel) (by decide +kernel)
theorem zw_406 : (Jvm.Cond.instanceMethod ({ cls := "BalanceRoom$Fit", name := "sweepRow", desc := "(IIJ)V" } : Jvm.MethodName)) ∈ zU := zU_i (i := 406) (by decide +kernel) (by decide +kernel)
set_option maxRecDepth 100000 in
theorem zw_407 : (Jvm.Cond.code ({ cls := "BalanceRoom$Fit", name := "sweepRow", desc := "(IIJ)V" } : Jvm.MethodName) prog_3_method_9_code (10 : Nat) (Option.none : Option Jvm.ClassFile.FieldType)) ∈ zU := zU_i (i := 407) (rfl) (by decide +kernel)
theorem zw_408 : (Jvm.Cond.constantLong "BalanceRoom" (139 : Nat) (-3 : Int64)) ∈ zU := zU_i (i := 408) (by decide +kernel) (by decide +kernel)
theorem zw_409 : (Jvm.Cond.methodLink "BalanceRoom" (141 : Nat) ({ cls := "BalanceRoom$Fit", name := "valueAbove", desc := "(I)J" } : Jvm.MethodName)) ∈ zU := zU_i (i := 409) (by decide +kernel) (by decide +kernel)
theorem zw_410 : (Jvm.Cond.instanceMethod ({ cls := "BalanceRoom$Fit", name := "valueAbove", desc := "(I)J" } : Jvm.MethodName)) ∈ zU := zU_i (i := 410) (by decide +kernel) (by decide +kernel)
theorem zw_411 : (Jvm.Cond.selects "BalanceRoom$Fit" ({ cls := "BalanceRoom$Fit", name := "valueAbove", desc := "(I)J" } : Jvm.MethodName) ({ cls := "BalanceRoom$Fit", name := "valueAbove", desc := "(I)J" } : Jvm.MethodName)) ∈ zU := zU_i (i := 411) (by decide +kernel) (by decide +kernel)
set_option maxRecDepth 100000 in
theorem zw_412 : (Jvm.Cond.code ({ cls := "BalanceRoom$Fit", name := "valueAbove", desc := "(I)J" } : Jvm.MethodName) prog_3_method_10_code (2 : Nat) (Option.some Jvm.ClassFile.FieldType.long)) ∈ zU := zU_i (i := 412) (rfl) (by decide +kernel)
theorem zw_413 : (Jvm.Cond.methodLink "BalanceRoom" (148 : Nat) ({ cls := "BalanceRoom", name := "told", desc := "(JJZ)J" } : Jvm.MethodName)) ∈ zU := zU_i (i := 413) (by decide +kernel) (by decide +kernel)
theorem zw_414 : (Jvm.Cond.static ({ cls := "BalanceRoom", name := "told", desc := "(JJZ)J" } : Jvm.MethodName)) ∈ zU := zU_i (i := 414) (by decide +kernel) (by decide +kernel)
set_option maxRecDepth 100000 in
theorem zw_415 : (Jvm.Cond.code ({ cls := "BalanceRoom", name := "told", desc := "(JJZ)J" } : Jvm.MethodName) prog_1_method_42_code (7 : Nat) (Option.some Jvm.ClassFile.FieldType.long)) ∈ zU := zU_i (i := 415) (rfl) (by decide +kernel)
theorem zw_416 : (Jvm.Cond.methodLink "BalanceRoom" (234 : Nat) ({ cls := "java/lang/Math", name := "abs", desc := "(J)J" } : Jvm.MethodName)) ∈ zU := zU_i (i := 416) (by decide +kernel) (by decide +kernel)
theorem zw_417 : (Jvm.Cond.static ({ cls := "java/lang/Math", name := "abs", desc := "(J)J" } : Jvm.MethodName)) ∈ zU := zU_i (i := 417) (by decide +kernel) (by decide +kernel)
set_option maxRecDepth 100000 in
theorem zw_418 : (Jvm.Cond.code ({ cls := "java/lang/Math", name := "abs", desc := "(J)J" } : Jvm.MethodName) prog_10_method_61_code (2 : Nat) (Option.some Jvm.ClassFile.FieldType.long)) ∈ zU := zU_i (i := 418) (rfl) (by decide +kernel)
theorem zw_419 : (Jvm.Cond.methodLink "BalanceRoom" (240 : Nat) ({ cls := "BalanceRoom", name := "commonDivisor", desc := "(JJ)J" } : Jvm.MethodName)) ∈ zU := zU_i (i := 419) (by decide +kernel) (by decide +kernel)
theorem zw_420 : (Jvm.Cond.static ({ cls := "BalanceRoom", name := "commonDivisor", desc := "(JJ)J" } : Jvm.MethodName)) ∈ zU := zU_i (i := 420) (by decide +kernel) (by decide +kernel)
set_option maxRecDepth 100000 in
theorem zw_421 : (Jvm.Cond.code ({ cls := "BalanceRoom", name := "commonDivisor", desc := "(JJ)J" } : Jvm.MethodName) prog_1_method_43_code (11 : Nat) (Option.some Jvm.ClassFile.FieldType.long)) ∈ zU := zU_i (i := 421) (rfl) (by decide +kernel)
theorem zw_422 : (Jvm.Cond.methodLink "BalanceRoomLaw" (74 : Nat) ({ cls := "BalanceRoom", name := "spread", desc := "(IZZ)J" } : Jvm.MethodName)) ∈ zU := zU_i (i := 422) (by decide +kernel) (by decide +kernel)
theorem zw_423 : (Jvm.Cond.instanceMethod ({ cls := "BalanceRoom", name := "spread", desc := "(IZZ)J" } : Jvm.MethodName)) ∈ zU := zU_i (i := 423) (by decide +kernel) (by decide +kernel)
theorem zw_424 : (Jvm.Cond.selects "BalanceRoom" ({ cls := "BalanceRoom", name := "spread", desc := "(IZZ)J" } : Jvm.MethodName) ({ cls := "BalanceRoom", name := "spread", desc := "(IZZ)J" } : Jvm.MethodName)) ∈ zU := zU_i (i := 424) (by decide +kernel) (by decide +kernel)
set_option maxRecDepth 100000 in
theorem zw_425 : (Jvm.Cond.code ({ cls := "BalanceRoom", name := "spread", desc := "(IZZ)J" } : Jvm.MethodName) prog_1_method_16_code (4 : Nat) (Option.some Jvm.ClassFile.FieldType.long)) ∈ zU := zU_i (i := 425) (rfl) (by decide +kernel)
theorem zw_426 : (Jvm.Cond.methodLink "BalanceRoom" (152 : Nat) ({ cls := "BalanceRoom$Fit", name := "spreadAbove", desc := "(I)J" } : Jvm.MethodName)) ∈ zU := zU_i (i := 426) (by decide +kernel) (by decide +kernel)
theorem zw_427 : (Jvm.Cond.instanceMethod ({ cls := "BalanceRoom$Fit", name := "spreadAbove", desc := "(I)J" } : Jvm.MethodName)) ∈ zU := zU_i (i := 427) (by decide +kernel) (by decide +kernel)
theorem zw_428 : (Jvm.Cond.selects "BalanceRoom$Fit" ({ cls := "BalanceRoom$Fit", name := "spreadAbove", desc := "(I)J" } : Jvm.MethodName) ({ cls := "BalanceRoom$Fit", name := "spreadAbove", desc := "(I)J" } : Jvm.MethodName)) ∈ zU := zU_i (i := 428) (by decide +kernel) (by decide +kernel)
set_option maxRecDepth 100000 in
theorem zw_429 : (Jvm.Cond.code ({ cls := "BalanceRoom$Fit", name := "spreadAbove", desc := "(I)J" } : Jvm.MethodName) prog_3_method_11_code (2 : Nat) (Option.some Jvm.ClassFile.FieldType.long)) ∈ zU := zU_i (i := 429) (rfl) (by decide +kernel)
theorem zw_430 : (Jvm.Cond.methodLink "BalanceRoomLaw" (78 : Nat) ({ cls := "BalanceRoom", name := "total", desc := "(ZZ)J" } : Jvm.MethodName)) ∈ zU := zU_i (i := 430) (by decide +kernel) (by decide +kernel)
theorem zw_431 : (Jvm.Cond.instanceMethod ({ cls := "BalanceRoom", name := "total", desc := "(ZZ)J" } : Jvm.MethodName)) ∈ zU := zU_i (i := 431) (by decide +kernel) (by decide +kernel)
theorem zw_432 : (Jvm.Cond.selects "BalanceRoom" ({ cls := "BalanceRoom", name := "total", desc := "(ZZ)J" } : Jvm.MethodName) ({ cls := "BalanceRoom", name := "total", desc := "(ZZ)J" } : Jvm.MethodName)) ∈ zU := zU_i (i := 432) (by decide +kernel) (by decide +kernel)
set_option maxRecDepth 100000 in
theorem zw_433 : (Jvm.Cond.code ({ cls := "BalanceRoom", name := "total", desc := "(ZZ)J" } : Jvm.MethodName) prog_1_method_17_code (3 : Nat) (Option.some Jvm.ClassFile.FieldType.long)) ∈ zU := zU_i (i := 433) (rfl) (by decide +kernel)
theorem zw_434 : (Jvm.Cond.methodLink "BalanceRoom" (155 : Nat) ({ cls := "BalanceRoom$Fit", name := "totalAbove", desc := "()J" } : Jvm.MethodName)) ∈ zU := zU_i (i := 434) (by decide +kernel) (by decide +kernel)
theorem zw_435 : (Jvm.Cond.instanceMethod ({ cls := "BalanceRoom$Fit", name := "totalAbove", desc := "()J" } : Jvm.MethodName)) ∈ zU := zU_i (i := 435) (by decide +kernel) (by decide +kernel)
theorem zw_436 : (Jvm.Cond.selects "BalanceRoom$Fit" ({ cls := "BalanceRoom$Fit", name := "totalAbove", desc := "()J" } : Jvm.MethodName) ({ cls := "BalanceRoom$Fit", name := "totalAbove", desc := "()J" } : Jvm.MethodName)) ∈ zU := zU_i (i := 436) (by decide +kernel) (by decide +kernel)
set_option maxRecDepth 100000 in
theorem zw_437 : (Jvm.Cond.code ({ cls := "BalanceRoom$Fit", name := "totalAbove", desc := "()J" } : Jvm.MethodName) prog_3_method_12_code (4 : Nat) (Option.some Jvm.ClassFile.FieldType.long)) ∈ zU := zU_i (i := 437) (rfl) (by decide +kernel)
theorem zw_438 : (Jvm.Cond.methodLink "BalanceRoom$Fit" (80 : Nat) ({ cls := "BalanceRoom$Fit", name := "spreadAbove", desc := "(I)J" } : Jvm.MethodName)) ∈ zU := zU_i (i := 438) (by decide +kernel) (by decide +kernel)
theorem zw_439 : (Jvm.Cond.methodLink "BalanceRoomLaw" (83 : Nat) ({ cls := "BalanceRoom", name := "rest", desc := "(IZZ)J" } : Jvm.MethodName)) ∈ zU := zU_i (i := 439) (by decide +kernel) (by decide +kernel)
theorem zw_440 : (Jvm.Cond.instanceMethod ({ cls := "BalanceRoom", name := "rest", desc := "(IZZ)J" } : Jvm.MethodName)) ∈ zU := zU_i (i := 440) (by decide +kernel) (by decide +kernel)
theorem zw_441 : (Jvm.Cond.selects "BalanceRoom" ({ cls := "BalanceRoom", name := "rest", desc := "(IZZ)J" } : Jvm.MethodName) ({ cls := "BalanceRoom", name := "rest", desc := "(IZZ)J" } : Jvm.MethodName)) ∈ zU := zU_i (i := 441) (by decide +kernel) (by decide +kernel)
set_option maxRecDepth 100000 in
theorem zw_442 : (Jvm.Cond.code ({ cls := "BalanceRoom", name := "rest", desc := "(IZZ)J" } : Jvm.MethodName) prog_1_method_18_code (4 : Nat) (Option.some Jvm.ClassFile.FieldType.long)) ∈ zU := zU_i (i := 442) (rfl) (by decide +kernel)
theorem zw_443 : (Jvm.Cond.methodLink "BalanceRoom" (159 : Nat) ({ cls := "BalanceRoom$Fit", name := "restAbove", desc := "(LBalanceRoom$Room;I)J" } : Jvm.MethodName)) ∈ zU := zU_i (i := 443) (by decide +kernel) (by decide +kernel)
theorem zw_444 : (Jvm.Cond.instanceMethod ({ cls := "BalanceRoom$Fit", name := "restAbove", desc := "(LBalanceRoom$Room;I)J" } : Jvm.MethodName)) ∈ zU := zU_i (i := 444) (by decide +kernel) (by decide +kernel)
theorem zw_445 : (Jvm.Cond.selects "BalanceRoom$Fit" ({ cls := "BalanceRoom$Fit", name := "restAbove", desc := "(LBalanceRoom$Room;I)J" } : Jvm.MethodName) ({ cls := "BalanceRoom$Fit", name := "restAbove", desc := "(LBalanceRoom$Room;I)J" } : Jvm.MethodName)) ∈ zU := zU_i (i := 445) (by decide +kernel) (by decide +kernel)
set_option maxRecDepth 100000 in
theorem zw_446 : (Jvm.Cond.code ({ cls := "BalanceRoom$Fit", name := "restAbove", desc := "(LBalanceRoom$Room;I)J" } : Jvm.MethodName) prog_3_method_13_code (6 : Nat) (Option.some Jvm.ClassFile.FieldType.long)) ∈ zU := zU_i (i := 446) (rfl) (by decide +kernel)
theorem zw_447 : (Jvm.Cond.methodLink "BalanceRoom$Fit" (84 : Nat) ({ cls := "BalanceRoom$Fit", name := "valueAbove", desc := "(I)J" } : Jvm.MethodName)) ∈ zU := zU_i (i := 447) (by decide +kernel) (by decide +kernel)
theorem zw_448 : (Jvm.Cond.methodLink "BalanceRoomLaw" (87 : Nat) ({ cls := "BalanceRoom", name := "squares", desc := "(ZZ)J" } : Jvm.MethodName)) ∈ zU := zU_i (i := 448) (by decide +kernel) (by decide +kernel)
theorem zw_449 : (Jvm.Cond.instanceMethod ({ cls := "BalanceRoom", name := "squares", desc := "(ZZ)J" } : Jvm.MethodName)) ∈ zU := zU_i (i := 449) (by decide +kernel) (by decide +kernel)
theorem zw_450 : (Jvm.Cond.selects "BalanceRoom" ({ cls := "BalanceRoom", name := "squares", desc := "(ZZ)J" } : Jvm.MethodName) ({ cls := "BalanceRoom", name := "squares", desc := "(ZZ)J" } : Jvm.MethodName)) ∈ zU := zU_i (i := 450) (by decide +kernel) (by decide +kernel)
set_option maxRecDepth 100000 in
theorem zw_451 : (Jvm.Cond.code ({ cls := "BalanceRoom", name := "squares", desc := "(ZZ)J" } : Jvm.MethodName) prog_1_method_19_code (3 : Nat) (Option.some Jvm.ClassFile.FieldType.long)) ∈ zU := zU_i (i := 451) (rfl) (by decide +kernel)
theorem zw_452 : (Jvm.Cond.methodLink "BalanceRoom" (163 : Nat) ({ cls := "BalanceRoom$Fit", name := "squaresAbove", desc := "()J" } : Jvm.MethodName)) ∈ zU := zU_i (i := 452) (by decide +kernel) (by decide +kernel)
theorem zw_453 : (Jvm.Cond.instanceMethod ({ cls := "BalanceRoom$Fit", name := "squaresAbove", desc := "()J" } : Jvm.MethodName)) ∈ zU := zU_i (i := 453) (by decide +kernel) (by decide +kernel)
theorem zw_454 : (Jvm.Cond.selects "BalanceRoom$Fit" ({ cls := "BalanceRoom$Fit", name := "squaresAbove", desc := "()J" } : Jvm.MethodName) ({ cls := "BalanceRoom$Fit", name := "squaresAbove", desc := "()J" } : Jvm.MethodName)) ∈ zU := zU_i (i := 454) (by decide +kernel) (by decide +kernel)
set_option maxRecDepth 100000 in
theorem zw_455 : (Jvm.Cond.code ({ cls := "BalanceRoom$Fit", name := "squaresAbove", desc := "()J" } : Jvm.MethodName) prog_3_method_14_code (1 : Nat) (Option.some Jvm.ClassFile.FieldType.long)) ∈ zU := zU_i (i := 455) (rfl) (by decide +kernel)
theorem zw_456 : (Jvm.Cond.methodLink "BalanceRoomLaw" (91 : Nat) ({ cls := "BalanceRoom", name := "next", desc := "(Z)I" } : Jvm.MethodName)) ∈ zU := zU_i (i := 456) (by decide +kernel) (by decide +kernel)
theorem zw_457 : (Jvm.Cond.instanceMethod ({ cls := "BalanceRoom", name := "next", desc := "(Z)I" } : Jvm.MethodName)) ∈ zU := zU_i (i := 457) (by decide +kernel) (by decide +kernel)
theorem zw_458 : (Jvm.Cond.selects "BalanceRoom" ({ cls := "BalanceRoom", name := "next", desc := "(Z)I" } : Jvm.MethodName) ({ cls := "BalanceRoom", name := "next", desc := "(Z)I" } : Jvm.MethodName)) ∈ zU := zU_i (i := 458) (by decide +kernel) (by decide +kernel)
set_option maxRecDepth 100000 in
theorem zw_459 : (Jvm.Cond.code ({ cls := "BalanceRoom", name := "next", desc := "(Z)I" } : Jvm.MethodName) prog_1_method_20_code (10 : Nat) (Option.some Jvm.ClassFile.FieldType.int)) ∈ zU := zU_i (i := 459) (rfl) (by decide +kernel)
theorem zw_460 : (Jvm.Cond.methodLink "BalanceRoom" (166 : Nat) ({ cls := "BalanceRoom$Room", name := "copy", desc := "(LBalanceRoom$Room;)V" } : Jvm.MethodName)) ∈ zU := zU_i (i := 460) (by decide +kernel) (by decide +kernel)
theorem zw_461 : (Jvm.Cond.methodLink "BalanceRoom" (169 : Nat) ({ cls := "BalanceRoom", name := "power", desc := "(II)I" } : Jvm.MethodName)) ∈ zU := zU_i (i := 461) (by decide +kernel) (by decide +kernel)
theorem zw_462 : (Jvm.Cond.static ({ cls := "BalanceRoom", name := "power", desc := "(II)I" } : Jvm.MethodName)) ∈ zU := zU_i (i := 462) (by decide +kernel) (by decide +kernel)
set_option maxRecDepth 100000 in
theorem zw_463 : (Jvm.Cond.code ({ cls := "BalanceRoom", name := "power", desc := "(II)I" } : Jvm.MethodName) prog_1_method_40_code (4 : Nat) (Option.some Jvm.ClassFile.FieldType.int)) ∈ zU := zU_i (i := 463) (rfl) (by decide +kernel)
theorem zw_464 : (Jvm.Cond.methodLink "BalanceRoom" (173 : Nat) ({ cls := "BalanceRoom$Fit", name := "gather", desc := "(LBalanceRoom$Room;Z)V" } : Jvm.MethodName)) ∈ zU := zU_i (i := 464) (by decide +kernel) (by decide +kernel)
theorem zw_465 : (Jvm.Cond.methodLink "BalanceRoom" (177 : Nat) ({ cls := "BalanceRoom", name := "numbered", desc := "(II)I" } : Jvm.MethodName)) ∈ zU := zU_i (i := 465) (by decide +kernel) (by decide +kernel)
theorem zw_466 : (Jvm.Cond.static ({ cls := "BalanceRoom", name := "numbered", desc := "(II)I" } : Jvm.MethodName)) ∈ zU := zU_i (i := 466) (by decide +kernel) (by decide +kernel)
set_option maxRecDepth 100000 in
theorem zw_467 : (Jvm.Cond.code ({ cls := "BalanceRoom", name := "numbered", desc := "(II)I" } : Jvm.MethodName) prog_1_method_39_code (6 : Nat) (Option.some Jvm.ClassFile.FieldType.int)) ∈ zU := zU_i (i := 467) (rfl) (by decide +kernel)
theorem zw_468 : (Jvm.Cond.methodLink "BalanceRoom" (180 : Nat) ({ cls := "BalanceRoom$Fit", name := "solvesWith", desc := "(LBalanceRoom$Room;I)Z" } : Jvm.MethodName)) ∈ zU := zU_i (i := 468) (by decide +kernel) (by decide +kernel)
theorem zw_469 : (Jvm.Cond.instanceMethod ({ cls := "BalanceRoom$Fit", name := "solvesWith", desc := "(LBalanceRoom$Room;I)Z" } : Jvm.MethodName)) ∈ zU := zU_i (i := 469) (by decide +kernel) (by decide +kernel)
theorem zw_470 : (Jvm.Cond.selects "BalanceRoom$Fit" ({ cls := "BalanceRoom$Fit", name := "solvesWith", desc := "(LBalanceRoom$Room;I)Z" } : Jvm.MethodName) ({ cls := "BalanceRoom$Fit", name := "solvesWith", desc := "(LBalanceRoom$Room;I)Z" } : Jvm.MethodName)) ∈ zU := zU_i (i := 470) (by decide +kernel) (by decide +kernel)
set_option maxRecDepth 100000 in
theorem zw_471 : (Jvm.Cond.code ({ cls := "BalanceRoom$Fit", name := "solvesWith", desc := "(LBalanceRoom$Room;I)Z" } : Jvm.MethodName) prog_3_method_3_code (4 : Nat) (Option.some Jvm.ClassFile.FieldType.boolean)) ∈ zU := zU_i (i := 471) (rfl) (by decide +kernel)
theorem zw_472 : (Jvm.Cond.methodLink "BalanceRoom" (184 : Nat) ({ cls := "BalanceRoom", name := "isLess", desc := "(JJJJ)Z" } : Jvm.MethodName)) ∈ zU := zU_i (i := 472) (by decide +kernel) (by decide +kernel)
theorem zw_473 : (Jvm.Cond.static ({ cls := "BalanceRoom", name := "isLess", desc := "(JJJJ)Z" } : Jvm.MethodName)) ∈ zU := zU_i (i := 473) (by decide +kernel) (by decide +kernel)
set_option maxRecDepth 100000 in
theorem zw_474 : (Jvm.Cond.code ({ cls := "BalanceRoom", name := "isLess", desc := "(JJJJ)Z" } : Jvm.MethodName) prog_1_method_41_code (8 : Nat) (Option.some Jvm.ClassFile.FieldType.boolean)) ∈ zU := zU_i (i := 474) (rfl) (by decide +kernel)
theorem zw_475 : (Jvm.Cond.methodLink "BalanceRoomLaw" (95 : Nat) ({ cls := "BalanceRoom", name := "better", desc := "()I" } : Jvm.MethodName)) ∈ zU := zU_i (i := 475) (by decide +kernel) (by decide +kernel)
theorem zw_476 : (Jvm.Cond.instanceMethod ({ cls := "BalanceRoom", name := "better", desc := "()I" } : Jvm.MethodName)) ∈ zU := zU_i (i := 476) (by decide +kernel) (by decide +kernel)
theorem zw_477 : (Jvm.Cond.selects "BalanceRoom" ({ cls := "BalanceRoom", name := "better", desc := "()I" } : Jvm.MethodName) ({ cls := "BalanceRoom", name := "better", desc := "()I" } : Jvm.MethodName)) ∈ zU := zU_i (i := 477) (by decide +kernel) (by decide +kernel)
set_option maxRecDepth 100000 in
theorem zw_478 : (Jvm.Cond.code ({ cls := "BalanceRoom", name := "better", desc := "()I" } : Jvm.MethodName) prog_1_method_21_code (8 : Nat) (Option.some Jvm.ClassFile.FieldType.int)) ∈ zU := zU_i (i := 478) (rfl) (by decide +kernel)
theorem zw_479 : (Jvm.Cond.methodLink "BalanceRoomLaw" (99 : Nat) ({ cls := "BalanceRoom", name := "doubtful", desc := "(Z)I" } : Jvm.MethodName)) ∈ zU := zU_i (i := 479) (by decide +kernel) (by decide +kernel)
theorem zw_480 : (Jvm.Cond.instanceMethod ({ cls := "BalanceRoom", name := "doubtful", desc := "(Z)I" } : Jvm.MethodName)) ∈ zU := zU_i (i := 480) (by decide +kernel) (by decide +kernel)
theorem zw_481 : (Jvm.Cond.selects "BalanceRoom" ({ cls := "BalanceRoom", name := "doubtful", desc := "(Z)I" } : Jvm.MethodName) ({ cls := "BalanceRoom", name := "doubtful", desc := "(Z)I" } : Jvm.MethodName)) ∈ zU := zU_i (i := 481) (by decide +kernel) (by decide +kernel)
set_option maxRecDepth 100000 in
theorem zw_482 : (Jvm.Cond.code ({ cls := "BalanceRoom", name := "doubtful", desc := "(Z)I" } : Jvm.MethodName) prog_1_method_22_code (2 : Nat) (Option.some Jvm.ClassFile.FieldType.int)) ∈ zU := zU_i (i := 482) (rfl) (by decide +kernel)
theorem zw_483 : (Jvm.Cond.methodLink "BalanceRoom" (188 : Nat) ({ cls := "BalanceRoom$Fit", name := "mostDoubtful", desc := "(LBalanceRoom$Room;Z)I" } : Jvm.MethodName)) ∈ zU := zU_i (i := 483) (by decide +kernel) (by decide +kernel)
theorem zw_484 : (Jvm.Cond.instanceMethod ({ cls := "BalanceRoom$Fit", name := "mostDoubtful", desc := "(LBalanceRoom$Room;Z)I" } : Jvm.MethodName)) ∈ zU := zU_i (i := 484) (by decide +kernel) (by decide +kernel)
theorem zw_485 : (Jvm.Cond.selects "BalanceRoom$Fit" ({ cls := "BalanceRoom$Fit", name := "mostDoubtful", desc := "(LBalanceRoom$Room;Z)I" } : Jvm.MethodName) ({ cls := "BalanceRoom$Fit", name := "mostDoubtful", desc := "(LBalanceRoom$Room;Z)I" } : Jvm.MethodName)) ∈ zU := zU_i (i := 485) (by decide +kernel) (by decide +kernel)
set_option maxRecDepth 100000 in
theorem zw_486 : (Jvm.Cond.code ({ cls := "BalanceRoom$Fit", name := "mostDoubtful", desc := "(LBalanceRoom$Room;Z)I" } : Jvm.MethodName) prog_3_method_15_code (9 : Nat) (Option.some Jvm.ClassFile.FieldType.int)) ∈ zU := zU_i (i := 486) (rfl) (by decide +kernel)
theorem zw_487 : (Jvm.Cond.methodLink "BalanceRoom$Fit" (87 : Nat) ({ cls := "BalanceRoom$Fit", name := "solvesWithout", desc := "(LBalanceRoom$Room;I)Z" } : Jvm.MethodName)) ∈ zU := zU_i (i := 487) (by decide +kernel) (by decide +kernel)
theorem zw_489 : (Jvm.Cond.instanceMethod ({ cls := "BalanceRoom$Fit", name := "solvesWithout", desc := "(LBalanceRoom$Room;I)Z" } : Jvm.MethodName)) ∈ zU := zU_i (i := 489) (by decide +kernel) (by decide +kernel)
set_option maxRecDepth 100000 in
theorem zw_490 : (Jvm.Cond.code ({ cls := "BalanceRoom$Fit", name := "solvesWithout", desc := "(LBalanceRoom$Room;I)Z" } : Jvm.MethodName) prog_3_method_4_code (4 : Nat) (Option.some Jvm.ClassFile.FieldType.boolean)) ∈ zU := zU_i (i := 490) (rfl) (by decide +kernel)
theorem zw_491 : (Jvm.Cond.methodLink "BalanceRoom$Fit" (91 : Nat) ({ cls := "BalanceRoom$Fit", name := "squaresAbove", desc := "()J" } : Jvm.MethodName)) ∈ zU := zU_i (i := 491) (by decide +kernel) (by decide +kernel)
theorem zl_492 : (Jvm.Cond.methodLinkNest "BalanceRoom$Fit" (95 : Nat) ({ cls := "BalanceRoom", name := "isLess", desc := "(JJJJ)Z" } : Jvm.MethodName) "BalanceRoom") ∈ lw_tbl := List.mem_of_getElem? (i := 492) (by decide +kernel)
theorem zw_493 : (Jvm.Cond.methodLink "BalanceRoomLaw" (103 : Nat) ({ cls := "BalanceRoom", name := "wrong", desc := "(Z)I" } : Jvm.MethodName)) ∈ zU := zU_i (i := 493) (by decide +kernel) (by decide +kernel)
theorem zw_494 : (Jvm.Cond.instanceMethod ({ cls := "BalanceRoom", name := "wrong", desc := "(Z)I" } : Jvm.MethodName)) ∈ zU := zU_i (i := 494) (by decide +kernel) (by decide +kernel)
theorem zw_495 : (Jvm.Cond.selects "BalanceRoom" ({ cls := "BalanceRoom", name := "wrong", desc := "(Z)I" } : Jvm.MethodName) ({ cls := "BalanceRoom", name := "wrong", desc := "(Z)I" } : Jvm.MethodName)) ∈ zU := zU_i (i := 495) (by decide +kernel) (by decide +kernel)
set_option maxRecDepth 100000 in
theorem zw_496 : (Jvm.Cond.code ({ cls := "BalanceRoom", name := "wrong", desc := "(Z)I" } : Jvm.MethodName) prog_1_method_23_code (2 : Nat) (Option.some Jvm.ClassFile.FieldType.int)) ∈ zU := zU_i (i := 496) (rfl) (by decide +kernel)
theorem zw_497 : (Jvm.Cond.methodLink "BalanceRoom" (191 : Nat) ({ cls := "BalanceRoom$Fit", name := "thoseAlone", desc := "(LBalanceRoom$Room;Z)I" } : Jvm.MethodName)) ∈ zU := zU_i (i := 497) (by decide +kernel) (by decide +kernel)
theorem zw_498 : (Jvm.Cond.instanceMethod ({ cls := "BalanceRoom$Fit", name := "thoseAlone", desc := "(LBalanceRoom$Room;Z)I" } : Jvm.MethodName)) ∈ zU := zU_i (i := 498) (by decide +kernel) (by decide +kernel)
theorem zw_499 : (Jvm.Cond.selects "BalanceRoom$Fit" ({ cls := "BalanceRoom$Fit", name := "thoseAlone", desc := "(LBalanceRoom$Room;Z)I" } : Jvm.MethodName) ({ cls := "BalanceRoom$Fit", name := "thoseAlone", desc := "(LBalanceRoom$Room;Z)I" } : Jvm.MethodName)) ∈ zU := zU_i (i := 499) (by decide +kernel) (by decide +kernel)
set_option maxRecDepth 100000 in
theorem zw_500 : (Jvm.Cond.code ({ cls := "BalanceRoom$Fit", name := "thoseAlone", desc := "(LBalanceRoom$Room;Z)I" } : Jvm.MethodName) prog_3_method_16_code (5 : Nat) (Option.some Jvm.ClassFile.FieldType.int)) ∈ zU := zU_i (i := 500) (rfl) (by decide +kernel)
theorem zw_501 : (Jvm.Cond.methodLink "BalanceRoomLaw" (109 : Nat) ({ cls := "BalanceRoom", name := "judge", desc := "(IJ)I" } : Jvm.MethodName)) ∈ zU := zU_i (i := 501) (by decide +kernel) (by decide +kernel)
theorem zw_502 : (Jvm.Cond.instanceMethod ({ cls := "BalanceRoom", name := "judge", desc := "(IJ)I" } : Jvm.MethodName)) ∈ zU := zU_i (i := 502) (by decide +kernel) (by decide +kernel)
theorem zw_503 : (Jvm.Cond.selects "BalanceRoom" ({ cls := "BalanceRoom", name := "judge", desc := "(IJ)I" } : Jvm.MethodName) ({ cls := "BalanceRoom", name := "judge", desc := "(IJ)I" } : Jvm.MethodName)) ∈ zU := zU_i (i := 503) (by decide +kernel) (by decide +kernel)
set_option maxRecDepth 100000 in
theorem zw_504 : (Jvm.Cond.code ({ cls := "BalanceRoom", name := "judge", desc := "(IJ)I" } : Jvm.MethodName) prog_1_method_24_code (7 : Nat) (Option.some Jvm.ClassFile.FieldType.int)) ∈ zU := zU_i (i := 504) (rfl) (by decide +kernel)
theorem zw_505 : (Jvm.Cond.constantLong "BalanceRoom" (194 : Nat) (10000 : Int64)) ∈ zU := zU_i (i := 505) (by decide +kernel) (by decide +kernel)
theorem zw_506 : (Jvm.Cond.methodLink "BalanceRoom" (196 : Nat) ({ cls := "BalanceRoom", name := "holds", desc := "(I)Z" } : Jvm.MethodName)) ∈ zU := zU_i (i := 506) (by decide +kernel) (by decide +kernel)
theorem zw_508 : (Jvm.Cond.instanceMethod ({ cls := "BalanceRoom", name := "holds", desc := "(I)Z" } : Jvm.MethodName)) ∈ zU := zU_i (i := 508) (by decide +kernel) (by decide +kernel)
set_option maxRecDepth 100000 in
theorem zw_509 : (Jvm.Cond.code ({ cls := "BalanceRoom", name := "holds", desc := "(I)Z" } : Jvm.MethodName) prog_1_method_32_code (6 : Nat) (Option.some Jvm.ClassFile.FieldType.boolean)) ∈ zU := zU_i (i := 509) (rfl) (by decide +kernel)
theorem zw_510 : (Jvm.Cond.methodLink "BalanceRoom" (225 : Nat) ({ cls := "BalanceRoom", name := "exchanged", desc := "(II)Z" } : Jvm.MethodName)) ∈ zU := zU_i (i := 510) (by decide +kernel) (by decide +kernel)
theorem zw_512 : (Jvm.Cond.instanceMethod ({ cls := "BalanceRoom", name := "exchanged", desc := "(II)Z" } : Jvm.MethodName)) ∈ zU := zU_i (i := 512) (by decide +kernel) (by decide +kernel)
set_option maxRecDepth 100000 in
theorem zw_513 : (Jvm.Cond.code ({ cls := "BalanceRoom", name := "exchanged", desc := "(II)Z" } : Jvm.MethodName) prog_1_method_33_code (3 : Nat) (Option.some Jvm.ClassFile.FieldType.boolean)) ∈ zU := zU_i (i := 513) (rfl) (by decide +kernel)
theorem zw_514 : (Jvm.Cond.methodLink "BalanceRoom" (228 : Nat) ({ cls := "BalanceRoom", name := "removed", desc := "(I)Z" } : Jvm.MethodName)) ∈ zU := zU_i (i := 514) (by decide +kernel) (by decide +kernel)
theorem zw_516 : (Jvm.Cond.instanceMethod ({ cls := "BalanceRoom", name := "removed", desc := "(I)Z" } : Jvm.MethodName)) ∈ zU := zU_i (i := 516) (by decide +kernel) (by decide +kernel)
set_option maxRecDepth 100000 in
theorem zw_517 : (Jvm.Cond.code ({ cls := "BalanceRoom", name := "removed", desc := "(I)Z" } : Jvm.MethodName) prog_1_method_34_code (2 : Nat) (Option.some Jvm.ClassFile.FieldType.boolean)) ∈ zU := zU_i (i := 517) (rfl) (by decide +kernel)
theorem zw_518 : (Jvm.Cond.methodLink "BalanceRoom" (231 : Nat) ({ cls := "BalanceRoom", name := "masterSet", desc := "(I)Z" } : Jvm.MethodName)) ∈ zU := zU_i (i := 518) (by decide +kernel) (by decide +kernel)
theorem zw_520 : (Jvm.Cond.instanceMethod ({ cls := "BalanceRoom", name := "masterSet", desc := "(I)Z" } : Jvm.MethodName)) ∈ zU := zU_i (i := 520) (by decide +kernel) (by decide +kernel)
set_option maxRecDepth 100000 in
theorem zw_521 : (Jvm.Cond.code ({ cls := "BalanceRoom", name := "masterSet", desc := "(I)Z" } : Jvm.MethodName) prog_1_method_35_code (2 : Nat) (Option.some Jvm.ClassFile.FieldType.boolean)) ∈ zU := zU_i (i := 521) (rfl) (by decide +kernel)
theorem zw_522 : (Jvm.Cond.methodLink "BalanceRoomLaw" (114 : Nat) ({ cls := "BalanceRoom", name := "share", desc := "(IZZ)I" } : Jvm.MethodName)) ∈ zU := zU_i (i := 522) (by decide +kernel) (by decide +kernel)
theorem zw_523 : (Jvm.Cond.instanceMethod ({ cls := "BalanceRoom", name := "share", desc := "(IZZ)I" } : Jvm.MethodName)) ∈ zU := zU_i (i := 523) (by decide +kernel) (by decide +kernel)
theorem zw_524 : (Jvm.Cond.selects "BalanceRoom" ({ cls := "BalanceRoom", name := "share", desc := "(IZZ)I" } : Jvm.MethodName) ({ cls := "BalanceRoom", name := "share", desc := "(IZZ)I" } : Jvm.MethodName)) ∈ zU := zU_i (i := 524) (by decide +kernel) (by decide +kernel)
set_option maxRecDepth 100000 in
theorem zw_525 : (Jvm.Cond.code ({ cls := "BalanceRoom", name := "share", desc := "(IZZ)I" } : Jvm.MethodName) prog_1_method_25_code (10 : Nat) (Option.some Jvm.ClassFile.FieldType.int)) ∈ zU := zU_i (i := 525) (rfl) (by decide +kernel)
theorem zw_526 : (Jvm.Cond.methodLink "BalanceRoom" (199 : Nat) ({ cls := "BalanceRoom$Ranks", name := "ofEach", desc := "(LBalanceRoom$Room;Z)V" } : Jvm.MethodName)) ∈ zU := zU_i (i := 526) (by decide +kernel) (by decide +kernel)
theorem zw_527 : (Jvm.Cond.instanceMethod ({ cls := "BalanceRoom$Ranks", name := "ofEach", desc := "(LBalanceRoom$Room;Z)V" } : Jvm.MethodName)) ∈ zU := zU_i (i := 527) (by decide +kernel) (by decide +kernel)
theorem zw_528 : (Jvm.Cond.selects "BalanceRoom$Ranks" ({ cls := "BalanceRoom$Ranks", name := "ofEach", desc := "(LBalanceRoom$Room;Z)V" } : Jvm.MethodName) ({ cls := "BalanceRoom$Ranks", name := "ofEach", desc := "(LBalanceRoom$Room;Z)V" } : Jvm.MethodName)) ∈ zU := zU_i (i := 528) (by decide +kernel) (by decide +kernel)
set_option maxRecDepth 100000 in
theorem zw_529 : (Jvm.Cond.code ({ cls := "BalanceRoom$Ranks", name := "ofEach", desc := "(LBalanceRoom$Room;Z)V" } : Jvm.MethodName) prog_4_method_3_code (6 : Nat) (Option.none : Option Jvm.ClassFile.FieldType)) ∈ zU := zU_i (i := 529) (rfl) (by decide +kernel)
theorem zw_530 : (Jvm.Cond.methodLink "BalanceRoom$Ranks" (33 : Nat) ({ cls := "java/lang/Integer", name := "bitCount", desc := "(I)I" } : Jvm.MethodName)) ∈ zU := zU_i (i := 530) (by decide +kernel) (by decide +kernel)
theorem zw_531 : (Jvm.Cond.static ({ cls := "java/lang/Integer", name := "bitCount", desc := "(I)I" } : Jvm.MethodName)) ∈ zU := zU_i (i := 531) (by decide +kernel) (by decide +kernel)
set_option maxRecDepth 100000 in
theorem zw_532 : (Jvm.Cond.code ({ cls := "java/lang/Integer", name := "bitCount", desc := "(I)I" } : Jvm.MethodName) prog_9_method_49_code (1 : Nat) (Option.some Jvm.ClassFile.FieldType.int)) ∈ zU := zU_i (i := 532) (rfl) (by decide +kernel)
theorem zw_533 : (Jvm.Cond.constant "java/lang/Integer" (265 : Nat) (1431655765 : Int32)) ∈ zU := zU_i (i := 533) (by decide +kernel) (by decide +kernel)
theorem zw_534 : (Jvm.Cond.constant "java/lang/Integer" (266 : Nat) (858993459 : Int32)) ∈ zU := zU_i (i := 534) (by decide +kernel) (by decide +kernel)
theorem zw_535 : (Jvm.Cond.constant "java/lang/Integer" (267 : Nat) (252645135 : Int32)) ∈ zU := zU_i (i := 535) (by decide +kernel) (by decide +kernel)
theorem zw_536 : (Jvm.Cond.methodLink "BalanceRoom" (205 : Nat) ({ cls := "java/lang/Integer", name := "bitCount", desc := "(I)I" } : Jvm.MethodName)) ∈ zU := zU_i (i := 536) (by decide +kernel) (by decide +kernel)
theorem zw_537 : (Jvm.Cond.fieldLink "BalanceRoom" (211 : Nat) "BalanceRoom" "FACTORIALS" "[I") ∈ zU := zU_i (i := 537) (by decide +kernel) (by decide +kernel)
theorem zl_538 : (Jvm.Cond.laysStatic "BalanceRoom" "FACTORIALS" "[I") ∈ lw_tbl := List.mem_of_getElem? (i := 538) (by decide +kernel)
theorem zw_539 : (Jvm.Cond.methodLink "BalanceRoomLaw" (119 : Nat) ({ cls := "BalanceRoom", name := "lost", desc := "(IZZ)I" } : Jvm.MethodName)) ∈ zU := zU_i (i := 539) (by decide +kernel) (by decide +kernel)
theorem zw_540 : (Jvm.Cond.instanceMethod ({ cls := "BalanceRoom", name := "lost", desc := "(IZZ)I" } : Jvm.MethodName)) ∈ zU := zU_i (i := 540) (by decide +kernel) (by decide +kernel)
theorem zw_541 : (Jvm.Cond.selects "BalanceRoom" ({ cls := "BalanceRoom", name := "lost", desc := "(IZZ)I" } : Jvm.MethodName) ({ cls := "BalanceRoom", name := "lost", desc := "(IZZ)I" } : Jvm.MethodName)) ∈ zU := zU_i (i := 541) (by decide +kernel) (by decide +kernel)
set_option maxRecDepth 100000 in
theorem zw_542 : (Jvm.Cond.code ({ cls := "BalanceRoom", name := "lost", desc := "(IZZ)I" } : Jvm.MethodName) prog_1_method_26_code (10 : Nat) (Option.some Jvm.ClassFile.FieldType.int)) ∈ zU := zU_i (i := 542) (rfl) (by decide +kernel)
theorem zw_543 : (Jvm.Cond.methodLink "BalanceRoom" (214 : Nat) ({ cls := "BalanceRoom$Room", name := "unknowns", desc := "(Z)I" } : Jvm.MethodName)) ∈ zU := zU_i (i := 543) (by decide +kernel) (by decide +kernel)
theorem zw_544 : (Jvm.Cond.methodLink "BalanceRoomLaw" (123 : Nat) ({ cls := "BalanceRoom", name := "seed", desc := "(J)J" } : Jvm.MethodName)) ∈ zU := zU_i (i := 544) (by decide +kernel) (by decide +kernel)
theorem zw_545 : (Jvm.Cond.instanceMethod ({ cls := "BalanceRoom", name := "seed", desc := "(J)J" } : Jvm.MethodName)) ∈ zU := zU_i (i := 545) (by decide +kernel) (by decide +kernel)
theorem zw_546 : (Jvm.Cond.selects "BalanceRoom" ({ cls := "BalanceRoom", name := "seed", desc := "(J)J" } : Jvm.MethodName) ({ cls := "BalanceRoom", name := "seed", desc := "(J)J" } : Jvm.MethodName)) ∈ zU := zU_i (i := 546) (by decide +kernel) (by decide +kernel)
set_option maxRecDepth 100000 in
theorem zw_547 : (Jvm.Cond.code ({ cls := "BalanceRoom", name := "seed", desc := "(J)J" } : Jvm.MethodName) prog_1_method_27_code (5 : Nat) (Option.some Jvm.ClassFile.FieldType.long)) ∈ zU := zU_i (i := 547) (rfl) (by decide +kernel)
theorem zw_548 : (Jvm.Cond.methodLink "BalanceRoomLaw" (128 : Nat) ({ cls := "BalanceRoom", name := "drawn", desc := "(I)I" } : Jvm.MethodName)) ∈ zU := zU_i (i := 548) (by decide +kernel) (by decide +kernel)
theorem zw_549 : (Jvm.Cond.instanceMethod ({ cls := "BalanceRoom", name := "drawn", desc := "(I)I" } : Jvm.MethodName)) ∈ zU := zU_i (i := 549) (by decide +kernel) (by decide +kernel)
theorem zw_550 : (Jvm.Cond.selects "BalanceRoom" ({ cls := "BalanceRoom", name := "drawn", desc := "(I)I" } : Jvm.MethodName) ({ cls := "BalanceRoom", name := "drawn", desc := "(I)I" } : Jvm.MethodName)) ∈ zU := zU_i (i := 550) (by decide +kernel) (by decide +kernel)
set_option maxRecDepth 100000 in
theorem zw_551 : (Jvm.Cond.code ({ cls := "BalanceRoom", name := "drawn", desc := "(I)I" } : Jvm.MethodName) prog_1_method_28_code (5 : Nat) (Option.some Jvm.ClassFile.FieldType.int)) ∈ zU := zU_i (i := 551) (rfl) (by decide +kernel)
theorem zw_552 : (Jvm.Cond.constantLong "BalanceRoom" (218 : Nat) (6364136223846793005 : Int64)) ∈ zU := zU_i (i := 552) (by decide +kernel) (by decide +kernel)
theorem zw_553 : (Jvm.Cond.constantLong "BalanceRoom" (220 : Nat) (1442695040888963407 : Int64)) ∈ zU := zU_i (i := 553) (by decide +kernel) (by decide +kernel)
theorem zw_554 : (Jvm.Cond.methodLink "BalanceRoom" (222 : Nat) ({ cls := "BalanceRoom", name := "drawReadings", desc := "(I)V" } : Jvm.MethodName)) ∈ zU := zU_i (i := 554) (by decide +kernel) (by decide +kernel)
theorem zw_556 : (Jvm.Cond.instanceMethod ({ cls := "BalanceRoom", name := "drawReadings", desc := "(I)V" } : Jvm.MethodName)) ∈ zU := zU_i (i := 556) (by decide +kernel) (by decide +kernel)
set_option maxRecDepth 100000 in
theorem zw_557 : (Jvm.Cond.code ({ cls := "BalanceRoom", name := "drawReadings", desc := "(I)V" } : Jvm.MethodName) prog_1_method_36_code (4 : Nat) (Option.none : Option Jvm.ClassFile.FieldType)) ∈ zU := zU_i (i := 557) (rfl) (by decide +kernel)
theorem zw_558 : (Jvm.Cond.methodLink "BalanceRoomLaw" (132 : Nat) ({ cls := "BalanceRoom", name := "keep", desc := "(I)I" } : Jvm.MethodName)) ∈ zU := zU_i (i := 558) (by decide +kernel) (by decide +kernel)
theorem zw_559 : (Jvm.Cond.instanceMethod ({ cls := "BalanceRoom", name := "keep", desc := "(I)I" } : Jvm.MethodName)) ∈ zU := zU_i (i := 559) (by decide +kernel) (by decide +kernel)
theorem zw_560 : (Jvm.Cond.selects "BalanceRoom" ({ cls := "BalanceRoom", name := "keep", desc := "(I)I" } : Jvm.MethodName) ({ cls := "BalanceRoom", name := "keep", desc := "(I)I" } : Jvm.MethodName)) ∈ zU := zU_i (i := 560) (by decide +kernel) (by decide +kernel)
set_option maxRecDepth 100000 in
theorem zw_561 : (Jvm.Cond.code ({ cls := "BalanceRoom", name := "keep", desc := "(I)I" } : Jvm.MethodName) prog_1_method_29_code (2 : Nat) (Option.some Jvm.ClassFile.FieldType.int)) ∈ zU := zU_i (i := 561) (rfl) (by decide +kernel)
theorem zw_562 : (Jvm.Cond.methodLink "BalanceRoomLaw" (136 : Nat) ({ cls := "BalanceRoom", name := "again", desc := "(I)I" } : Jvm.MethodName)) ∈ zU := zU_i (i := 562) (by decide +kernel) (by decide +kernel)
theorem zw_563 : (Jvm.Cond.instanceMethod ({ cls := "BalanceRoom", name := "again", desc := "(I)I" } : Jvm.MethodName)) ∈ zU := zU_i (i := 563) (by decide +kernel) (by decide +kernel)
theorem zw_564 : (Jvm.Cond.selects "BalanceRoom" ({ cls := "BalanceRoom", name := "again", desc := "(I)I" } : Jvm.MethodName) ({ cls := "BalanceRoom", name := "again", desc := "(I)I" } : Jvm.MethodName)) ∈ zU := zU_i (i := 564) (by decide +kernel) (by decide +kernel)
set_option maxRecDepth 100000 in
theorem zw_565 : (Jvm.Cond.code ({ cls := "BalanceRoom", name := "again", desc := "(I)I" } : Jvm.MethodName) prog_1_method_30_code (2 : Nat) (Option.some Jvm.ClassFile.FieldType.int)) ∈ zU := zU_i (i := 565) (rfl) (by decide +kernel)
theorem zw_566 : (Jvm.Cond.methodLink "BalanceRoomLaw" (140 : Nat) ({ cls := "BalanceRoom", name := "count", desc := "(I)I" } : Jvm.MethodName)) ∈ zU := zU_i (i := 566) (by decide +kernel) (by decide +kernel)
theorem zw_567 : (Jvm.Cond.instanceMethod ({ cls := "BalanceRoom", name := "count", desc := "(I)I" } : Jvm.MethodName)) ∈ zU := zU_i (i := 567) (by decide +kernel) (by decide +kernel)
theorem zw_568 : (Jvm.Cond.selects "BalanceRoom" ({ cls := "BalanceRoom", name := "count", desc := "(I)I" } : Jvm.MethodName) ({ cls := "BalanceRoom", name := "count", desc := "(I)I" } : Jvm.MethodName)) ∈ zU := zU_i (i := 568) (by decide +kernel) (by decide +kernel)
set_option maxRecDepth 100000 in
theorem zw_569 : (Jvm.Cond.code ({ cls := "BalanceRoom", name := "count", desc := "(I)I" } : Jvm.MethodName) prog_1_method_31_code (2 : Nat) (Option.some Jvm.ClassFile.FieldType.int)) ∈ zU := zU_i (i := 569) (rfl) (by decide +kernel)
theorem zw_570 : (Jvm.Cond.classLink "BalanceRoomLaw" (10 : Nat) "BalanceRoomModel") ∈ zU := zU_i (i := 570) (by decide +kernel) (by decide +kernel)
theorem zw_571 : (Jvm.Cond.instantiable "BalanceRoomModel" (24 : Nat)) ∈ zU := zU_i (i := 571) (by decide +kernel) (by decide +kernel)
theorem zw_572 : (Jvm.Cond.methodLink "BalanceRoomLaw" (12 : Nat) ({ cls := "BalanceRoomModel", name := "<init>", desc := "()V" } : Jvm.MethodName)) ∈ zU := zU_i (i := 572) (by decide +kernel) (by decide +kernel)
theorem zw_573 : (Jvm.Cond.instanceMethod ({ cls := "BalanceRoomModel", name := "<init>", desc := "()V" } : Jvm.MethodName)) ∈ zU := zU_i (i := 573) (by decide +kernel) (by decide +kernel)
set_option maxRecDepth 100000 in
theorem zw_574 : (Jvm.Cond.code ({ cls := "BalanceRoomModel", name := "<init>", desc := "()V" } : Jvm.MethodName) prog_8_method_2_code (1 : Nat) (Option.none : Option Jvm.ClassFile.FieldType)) ∈ zU := zU_i (i := 574) (rfl) (by decide +kernel)
theorem zw_575 : (Jvm.Cond.methodLink "BalanceRoomModel" (7 : Nat) ({ cls := "java/lang/Object", name := "<init>", desc := "()V" } : Jvm.MethodName)) ∈ zU := zU_i (i := 575) (by decide +kernel) (by decide +kernel)
theorem zw_576 : (Jvm.Cond.fieldLink "BalanceRoomModel" (1 : Nat) "BalanceRoomModel" "thrown" "I") ∈ zU := zU_i (i := 576) (by decide +kernel) (by decide +kernel)
theorem zw_577 : (Jvm.Cond.fieldLink "BalanceRoomModel" (13 : Nat) "BalanceRoomModel" "text" "[I") ∈ zU := zU_i (i := 577) (by decide +kernel) (by decide +kernel)
theorem zw_578 : (Jvm.Cond.fieldLink "BalanceRoomModel" (67 : Nat) "BalanceRoomModel" "textSize" "I") ∈ zU := zU_i (i := 578) (by decide +kernel) (by decide +kernel)
theorem zw_579 : (Jvm.Cond.fieldLink "BalanceRoomModel" (70 : Nat) "BalanceRoomModel" "place" "I") ∈ zU := zU_i (i := 579) (by decide +kernel) (by decide +kernel)
theorem zw_580 : (Jvm.Cond.fieldLink "BalanceRoomModel" (17 : Nat) "BalanceRoomModel" "weights" "I") ∈ zU := zU_i (i := 580) (by decide +kernel) (by decide +kernel)
theorem zw_581 : (Jvm.Cond.fieldLink "BalanceRoomModel" (77 : Nat) "BalanceRoomModel" "readWeights" "I") ∈ zU := zU_i (i := 581) (by decide +kernel) (by decide +kernel)
theorem zw_582 : (Jvm.Cond.fieldLink "BalanceRoomModel" (20 : Nat) "BalanceRoomModel" "readPage" "[I") ∈ zU := zU_i (i := 582) (by decide +kernel) (by decide +kernel)
theorem zw_583 : (Jvm.Cond.fieldLink "BalanceRoomModel" (23 : Nat) "BalanceRoomModel" "page" "[I") ∈ zU := zU_i (i := 583) (by decide +kernel) (by decide +kernel)
theorem zw_584 : (Jvm.Cond.fieldLink "BalanceRoomModel" (26 : Nat) "BalanceRoomModel" "trial" "[I") ∈ zU := zU_i (i := 584) (by decide +kernel) (by decide +kernel)
theorem zw_585 : (Jvm.Cond.fieldLink "BalanceRoomModel" (29 : Nat) "BalanceRoomModel" "other" "[I") ∈ zU := zU_i (i := 585) (by decide +kernel) (by decide +kernel)
theorem zw_586 : (Jvm.Cond.fieldLink "BalanceRoomModel" (32 : Nat) "BalanceRoomModel" "book" "[I") ∈ zU := zU_i (i := 586) (by decide +kernel) (by decide +kernel)
theorem zw_587 : (Jvm.Cond.fieldLink "BalanceRoomModel" (99 : Nat) "BalanceRoomModel" "doings" "I") ∈ zU := zU_i (i := 587) (by decide +kernel) (by decide +kernel)
theorem zw_588 : (Jvm.Cond.fieldLink "BalanceRoomModel" (35 : Nat) "BalanceRoomModel" "kept" "[I") ∈ zU := zU_i (i := 588) (by decide +kernel) (by decide +kernel)
theorem zw_589 : (Jvm.Cond.fieldLink "BalanceRoomModel" (38 : Nat) "BalanceRoomModel" "isKept" "[Z") ∈ zU := zU_i (i := 589) (by decide +kernel) (by decide +kernel)
theorem zw_590 : (Jvm.Cond.fieldLink "BalanceRoomModel" (234 : Nat) "BalanceRoomModel" "seed" "J") ∈ zU := zU_i (i := 590) (by decide +kernel) (by decide +kernel)
theorem zw_591 : (Jvm.Cond.fieldLink "BalanceRoomModel" (58 : Nat) "BalanceRoomModel" "wide" "I") ∈ zU := zU_i (i := 591) (by decide +kernel) (by decide +kernel)
theorem zw_592 : (Jvm.Cond.fieldLink "BalanceRoomModel" (42 : Nat) "BalanceRoomModel" "gram" "[J") ∈ zU := zU_i (i := 592) (by decide +kernel) (by decide +kernel)
theorem zw_593 : (Jvm.Cond.fieldLink "BalanceRoomModel" (46 : Nat) "BalanceRoomModel" "right" "[J") ∈ zU := zU_i (i := 593) (by decide +kernel) (by decide +kernel)
theorem zw_594 : (Jvm.Cond.fieldLink "BalanceRoomModel" (132 : Nat) "BalanceRoomModel" "squaresOfAll" "J") ∈ zU := zU_i (i := 594) (by decide +kernel) (by decide +kernel)
theorem zw_595 : (Jvm.Cond.fieldLink "BalanceRoomModel" (49 : Nat) "BalanceRoomModel" "work" "[J") ∈ zU := zU_i (i := 595) (by decide +kernel) (by decide +kernel)
theorem zw_596 : (Jvm.Cond.fieldLink "BalanceRoomModel" (52 : Nat) "BalanceRoomModel" "chosen" "[I") ∈ zU := zU_i (i := 596) (by decide +kernel) (by decide +kernel)
theorem zw_597 : (Jvm.Cond.fieldLink "BalanceRoomModel" (55 : Nat) "BalanceRoomModel" "column" "[I") ∈ zU := zU_i (i := 597) (by decide +kernel) (by decide +kernel)
theorem zw_598 : (Jvm.Cond.fieldLink "BalanceRoomModel" (170 : Nat) "BalanceRoomModel" "up" "J") ∈ zU := zU_i (i := 598) (by decide +kernel) (by decide +kernel)
theorem zw_599 : (Jvm.Cond.fieldLink "BalanceRoomModel" (173 : Nat) "BalanceRoomModel" "low" "J") ∈ zU := zU_i (i := 599) (by decide +kernel) (by decide +kernel)
theorem zw_600 : (Jvm.Cond.lays "BalanceRoomModel" "BalanceRoomModel" "thrown" "I") ∈ zU := zU_i (i := 600) (by decide +kernel) (by decide +kernel)
theorem zw_602 : (Jvm.Cond.laysFinal "BalanceRoomModel" "BalanceRoomModel" "text" "[I") ∈ zU := zU_i (i := 602) (by decide +kernel) (by decide +kernel)
theorem zw_604 : (Jvm.Cond.lays "BalanceRoomModel" "BalanceRoomModel" "textSize" "I") ∈ zU := zU_i (i := 604) (by decide +kernel) (by decide +kernel)
theorem zw_606 : (Jvm.Cond.lays "BalanceRoomModel" "BalanceRoomModel" "place" "I") ∈ zU := zU_i (i := 606) (by decide +kernel) (by decide +kernel)
theorem zw_608 : (Jvm.Cond.lays "BalanceRoomModel" "BalanceRoomModel" "weights" "I") ∈ zU := zU_i (i := 608) (by decide +kernel) (by decide +kernel)
theorem zw_610 : (Jvm.Cond.lays "BalanceRoomModel" "BalanceRoomModel" "readWeights" "I") ∈ zU := zU_i (i := 610) (by decide +kernel) (by decide +kernel)
theorem zw_612 : (Jvm.Cond.laysFinal "BalanceRoomModel" "BalanceRoomModel" "readPage" "[I") ∈ zU := zU_i (i := 612) (by decide +kernel) (by decide +kernel)
theorem zw_614 : (Jvm.Cond.laysFinal "BalanceRoomModel" "BalanceRoomModel" "page" "[I") ∈ zU := zU_i (i := 614) (by decide +kernel) (by decide +kernel)
theorem zw_616 : (Jvm.Cond.laysFinal "BalanceRoomModel" "BalanceRoomModel" "trial" "[I") ∈ zU := zU_i (i := 616) (by decide +kernel) (by decide +kernel)
theorem zw_618 : (Jvm.Cond.laysFinal "BalanceRoomModel" "BalanceRoomModel" "other" "[I") ∈ zU := zU_i (i := 618) (by decide +kernel) (by decide +kernel)
theorem zw_620 : (Jvm.Cond.laysFinal "BalanceRoomModel" "BalanceRoomModel" "book" "[I") ∈ zU := zU_i (i := 620) (by decide +kernel) (by decide +kernel)
theorem zw_622 : (Jvm.Cond.lays "BalanceRoomModel" "BalanceRoomModel" "doings" "I") ∈ zU := zU_i (i := 622) (by decide +kernel) (by decide +kernel)
theorem zw_624 : (Jvm.Cond.laysFinal "BalanceRoomModel" "BalanceRoomModel" "kept" "[I") ∈ zU := zU_i (i := 624) (by decide +kernel) (by decide +kernel)
theorem zw_626 : (Jvm.Cond.laysFinal "BalanceRoomModel" "BalanceRoomModel" "isKept" "[Z") ∈ zU := zU_i (i := 626) (by decide +kernel) (by decide +kernel)
theorem zw_628 : (Jvm.Cond.lays "BalanceRoomModel" "BalanceRoomModel" "seed" "J") ∈ zU := zU_i (i := 628) (by decide +kernel) (by decide +kernel)
theorem zw_630 : (Jvm.Cond.lays "BalanceRoomModel" "BalanceRoomModel" "wide" "I") ∈ zU := zU_i (i := 630) (by decide +kernel) (by decide +kernel)
theorem zw_632 : (Jvm.Cond.laysFinal "BalanceRoomModel" "BalanceRoomModel" "gram" "[J") ∈ zU := zU_i (i := 632) (by decide +kernel) (by decide +kernel)
theorem zw_634 : (Jvm.Cond.laysFinal "BalanceRoomModel" "BalanceRoomModel" "right" "[J") ∈ zU := zU_i (i := 634) (by decide +kernel) (by decide +kernel)
theorem zw_636 : (Jvm.Cond.lays "BalanceRoomModel" "BalanceRoomModel" "squaresOfAll" "J") ∈ zU := zU_i (i := 636) (by decide +kernel) (by decide +kernel)
theorem zw_638 : (Jvm.Cond.laysFinal "BalanceRoomModel" "BalanceRoomModel" "work" "[J") ∈ zU := zU_i (i := 638) (by decide +kernel) (by decide +kernel)
theorem zw_640 : (Jvm.Cond.laysFinal "BalanceRoomModel" "BalanceRoomModel" "chosen" "[I") ∈ zU := zU_i (i := 640) (by decide +kernel) (by decide +kernel)
theorem zw_642 : (Jvm.Cond.laysFinal "BalanceRoomModel" "BalanceRoomModel" "column" "[I") ∈ zU := zU_i (i := 642) (by decide +kernel) (by decide +kernel)
theorem zw_644 : (Jvm.Cond.lays "BalanceRoomModel" "BalanceRoomModel" "up" "J") ∈ zU := zU_i (i := 644) (by decide +kernel) (by decide +kernel)
theorem zw_646 : (Jvm.Cond.lays "BalanceRoomModel" "BalanceRoomModel" "low" "J") ∈ zU := zU_i (i := 646) (by decide +kernel) (by decide +kernel)
theorem zw_649 : (Jvm.Cond.methodLink "BalanceRoomLaw" (17 : Nat) ({ cls := "BalanceRoomModel", name := "write", desc := "(I)I" } : Jvm.MethodName)) ∈ zU := zU_i (i := 649) (by decide +kernel) (by decide +kernel)
theorem zw_650 : (Jvm.Cond.instanceMethod ({ cls := "BalanceRoomModel", name := "write", desc := "(I)I" } : Jvm.MethodName)) ∈ zU := zU_i (i := 650) (by decide +kernel) (by decide +kernel)
theorem zw_651 : (Jvm.Cond.selects "BalanceRoomModel" ({ cls := "BalanceRoomModel", name := "write", desc := "(I)I" } : Jvm.MethodName) ({ cls := "BalanceRoomModel", name := "write", desc := "(I)I" } : Jvm.MethodName)) ∈ zU := zU_i (i := 651) (by decide +kernel) (by decide +kernel)
set_option maxRecDepth 100000 in
theorem zw_652 : (Jvm.Cond.code ({ cls := "BalanceRoomModel", name := "write", desc := "(I)I" } : Jvm.MethodName) prog_8_method_10_code (2 : Nat) (Option.some Jvm.ClassFile.FieldType.int)) ∈ zU := zU_i (i := 652) (rfl) (by decide +kernel)
theorem zw_653 : (Jvm.Cond.constantLong "BalanceRoomModel" (65 : Nat) (255 : Int64)) ∈ zU := zU_i (i := 653) (by decide +kernel) (by decide +kernel)
theorem zw_654 : (Jvm.Cond.methodLink "BalanceRoomModel" (61 : Nat) ({ cls := "BalanceRoomModel", name := "in", desc := "(JJJ)Z" } : Jvm.MethodName)) ∈ zU := zU_i (i := 654) (by decide +kernel) (by decide +kernel)
theorem zw_655 : (Jvm.Cond.static ({ cls := "BalanceRoomModel", name := "in", desc := "(JJJ)Z" } : Jvm.MethodName)) ∈ zU := zU_i (i := 655) (by decide +kernel) (by decide +kernel)
set_option maxRecDepth 100000 in
theorem zw_656 : (Jvm.Cond.code ({ cls := "BalanceRoomModel", name := "in", desc := "(JJJ)Z" } : Jvm.MethodName) prog_8_method_3_code (6 : Nat) (Option.some Jvm.ClassFile.FieldType.boolean)) ∈ zU := zU_i (i := 656) (rfl) (by decide +kernel)
theorem zw_657 : (Jvm.Cond.methodLink "BalanceRoomLaw" (22 : Nat) ({ cls := "BalanceRoomModel", name := "wipe", desc := "()I" } : Jvm.MethodName)) ∈ zU := zU_i (i := 657) (by decide +kernel) (by decide +kernel)
theorem zw_658 : (Jvm.Cond.instanceMethod ({ cls := "BalanceRoomModel", name := "wipe", desc := "()I" } : Jvm.MethodName)) ∈ zU := zU_i (i := 658) (by decide +kernel) (by decide +kernel)
theorem zw_659 : (Jvm.Cond.selects "BalanceRoomModel" ({ cls := "BalanceRoomModel", name := "wipe", desc := "()I" } : Jvm.MethodName) ({ cls := "BalanceRoomModel", name := "wipe", desc := "()I" } : Jvm.MethodName)) ∈ zU := zU_i (i := 659) (by decide +kernel) (by decide +kernel)
set_option maxRecDepth 100000 in
theorem zw_660 : (Jvm.Cond.code ({ cls := "BalanceRoomModel", name := "wipe", desc := "()I" } : Jvm.MethodName) prog_8_method_11_code (2 : Nat) (Option.some Jvm.ClassFile.FieldType.int)) ∈ zU := zU_i (i := 660) (rfl) (by decide +kernel)
theorem zw_661 : (Jvm.Cond.methodLink "BalanceRoomLaw" (26 : Nat) ({ cls := "BalanceRoomModel", name := "fault", desc := "()I" } : Jvm.MethodName)) ∈ zU := zU_i (i := 661) (by decide +kernel) (by decide +kernel)
theorem zw_662 : (Jvm.Cond.instanceMethod ({ cls := "BalanceRoomModel", name := "fault", desc := "()I" } : Jvm.MethodName)) ∈ zU := zU_i (i := 662) (by decide +kernel) (by decide +kernel)
theorem zw_663 : (Jvm.Cond.selects "BalanceRoomModel" ({ cls := "BalanceRoomModel", name := "fault", desc := "()I" } : Jvm.MethodName) ({ cls := "BalanceRoomModel", name := "fault", desc := "()I" } : Jvm.MethodName)) ∈ zU := zU_i (i := 663) (by decide +kernel) (by decide +kernel)
set_option maxRecDepth 100000 in
theorem zw_664 : (Jvm.Cond.code ({ cls := "BalanceRoomModel", name := "fault", desc := "()I" } : Jvm.MethodName) prog_8_method_17_code (1 : Nat) (Option.some Jvm.ClassFile.FieldType.int)) ∈ zU := zU_i (i := 664) (rfl) (by decide +kernel)
theorem zw_665 : (Jvm.Cond.methodLink "BalanceRoomModel" (91 : Nat) ({ cls := "BalanceRoomModel", name := "readRoom", desc := "()I" } : Jvm.MethodName)) ∈ zU := zU_i (i := 665) (by decide +kernel) (by decide +kernel)
theorem zw_667 : (Jvm.Cond.instanceMethod ({ cls := "BalanceRoomModel", name := "readRoom", desc := "()I" } : Jvm.MethodName)) ∈ zU := zU_i (i := 667) (by decide +kernel) (by decide +kernel)
set_option maxRecDepth 100000 in
theorem zw_668 : (Jvm.Cond.code ({ cls := "BalanceRoomModel", name := "readRoom", desc := "()I" } : Jvm.MethodName) prog_8_method_16_code (2 : Nat) (Option.some Jvm.ClassFile.FieldType.int)) ∈ zU := zU_i (i := 668) (rfl) (by decide +kernel)
theorem zw_669 : (Jvm.Cond.methodLink "BalanceRoomModel" (84 : Nat) ({ cls := "BalanceRoomModel", name := "readHead", desc := "()Z" } : Jvm.MethodName)) ∈ zU := zU_i (i := 669) (by decide +kernel) (by decide +kernel)
theorem zw_671 : (Jvm.Cond.instanceMethod ({ cls := "BalanceRoomModel", name := "readHead", desc := "()Z" } : Jvm.MethodName)) ∈ zU := zU_i (i := 671) (by decide +kernel) (by decide +kernel)
set_option maxRecDepth 100000 in
theorem zw_672 : (Jvm.Cond.code ({ cls := "BalanceRoomModel", name := "readHead", desc := "()Z" } : Jvm.MethodName) prog_8_method_14_code (3 : Nat) (Option.some Jvm.ClassFile.FieldType.boolean)) ∈ zU := zU_i (i := 672) (rfl) (by decide +kernel)
theorem zw_673 : (Jvm.Cond.methodLink "BalanceRoomModel" (73 : Nat) ({ cls := "BalanceRoomModel", name := "figure", desc := "(II)I" } : Jvm.MethodName)) ∈ zU := zU_i (i := 673) (by decide +kernel) (by decide +kernel)
theorem zw_675 : (Jvm.Cond.instanceMethod ({ cls := "BalanceRoomModel", name := "figure", desc := "(II)I" } : Jvm.MethodName)) ∈ zU := zU_i (i := 675) (by decide +kernel) (by decide +kernel)
set_option maxRecDepth 100000 in
theorem zw_676 : (Jvm.Cond.code ({ cls := "BalanceRoomModel", name := "figure", desc := "(II)I" } : Jvm.MethodName) prog_8_method_12_code (4 : Nat) (Option.some Jvm.ClassFile.FieldType.int)) ∈ zU := zU_i (i := 676) (rfl) (by decide +kernel)
theorem zw_677 : (Jvm.Cond.methodLink "BalanceRoomModel" (88 : Nat) ({ cls := "BalanceRoomModel", name := "readWeighing", desc := "()Z" } : Jvm.MethodName)) ∈ zU := zU_i (i := 677) (by decide +kernel) (by decide +kernel)
theorem zw_679 : (Jvm.Cond.instanceMethod ({ cls := "BalanceRoomModel", name := "readWeighing", desc := "()Z" } : Jvm.MethodName)) ∈ zU := zU_i (i := 679) (by decide +kernel) (by decide +kernel)
set_option maxRecDepth 100000 in
theorem zw_680 : (Jvm.Cond.code ({ cls := "BalanceRoomModel", name := "readWeighing", desc := "()Z" } : Jvm.MethodName) prog_8_method_15_code (6 : Nat) (Option.some Jvm.ClassFile.FieldType.boolean)) ∈ zU := zU_i (i := 680) (rfl) (by decide +kernel)
theorem zw_681 : (Jvm.Cond.methodLink "BalanceRoomModel" (80 : Nat) ({ cls := "BalanceRoomModel", name := "sign", desc := "(Z)I" } : Jvm.MethodName)) ∈ zU := zU_i (i := 681) (by decide +kernel) (by decide +kernel)
theorem zw_683 : (Jvm.Cond.instanceMethod ({ cls := "BalanceRoomModel", name := "sign", desc := "(Z)I" } : Jvm.MethodName)) ∈ zU := zU_i (i := 683) (by decide +kernel) (by decide +kernel)
set_option maxRecDepth 100000 in
theorem zw_684 : (Jvm.Cond.code ({ cls := "BalanceRoomModel", name := "sign", desc := "(Z)I" } : Jvm.MethodName) prog_8_method_13_code (4 : Nat) (Option.some Jvm.ClassFile.FieldType.int)) ∈ zU := zU_i (i := 684) (rfl) (by decide +kernel)
theorem zw_685 : (Jvm.Cond.methodLink "BalanceRoomLaw" (30 : Nat) ({ cls := "BalanceRoomModel", name := "room", desc := "()I" } : Jvm.MethodName)) ∈ zU := zU_i (i := 685) (by decide +kernel) (by decide +kernel)
theorem zw_686 : (Jvm.Cond.instanceMethod ({ cls := "BalanceRoomModel", name := "room", desc := "()I" } : Jvm.MethodName)) ∈ zU := zU_i (i := 686) (by decide +kernel) (by decide +kernel)
theorem zw_687 : (Jvm.Cond.selects "BalanceRoomModel" ({ cls := "BalanceRoomModel", name := "room", desc := "()I" } : Jvm.MethodName) ({ cls := "BalanceRoomModel", name := "room", desc := "()I" } : Jvm.MethodName)) ∈ zU := zU_i (i := 687) (by decide +kernel) (by decide +kernel)
set_option maxRecDepth 100000 in
theorem zw_688 : (Jvm.Cond.code ({ cls := "BalanceRoomModel", name := "room", desc := "()I" } : Jvm.MethodName) prog_8_method_18_code (1 : Nat) (Option.some Jvm.ClassFile.FieldType.int)) ∈ zU := zU_i (i := 688) (rfl) (by decide +kernel)
theorem zw_689 : (Jvm.Cond.methodLink "BalanceRoomModel" (95 : Nat) ({ cls := "BalanceRoomModel", name := "copy", desc := "([I[I)V" } : Jvm.MethodName)) ∈ zU := zU_i (i := 689) (by decide +kernel) (by decide +kernel)
theorem zw_690 : (Jvm.Cond.static ({ cls := "BalanceRoomModel", name := "copy", desc := "([I[I)V" } : Jvm.MethodName)) ∈ zU := zU_i (i := 690) (by decide +kernel) (by decide +kernel)
set_option maxRecDepth 100000 in
theorem zw_691 : (Jvm.Cond.code ({ cls := "BalanceRoomModel", name := "copy", desc := "([I[I)V" } : Jvm.MethodName) prog_8_method_7_code (3 : Nat) (Option.none : Option Jvm.ClassFile.FieldType)) ∈ zU := zU_i (i := 691) (rfl) (by decide +kernel)
theorem zw_692 : (Jvm.Cond.methodLink "BalanceRoomLaw" (34 : Nat) ({ cls := "BalanceRoomModel", name := "code", desc := "(I)I" } : Jvm.MethodName)) ∈ zU := zU_i (i := 692) (by decide +kernel) (by decide +kernel)
theorem zw_693 : (Jvm.Cond.instanceMethod ({ cls := "BalanceRoomModel", name := "code", desc := "(I)I" } : Jvm.MethodName)) ∈ zU := zU_i (i := 693) (by decide +kernel) (by decide +kernel)
theorem zw_694 : (Jvm.Cond.selects "BalanceRoomModel" ({ cls := "BalanceRoomModel", name := "code", desc := "(I)I" } : Jvm.MethodName) ({ cls := "BalanceRoomModel", name := "code", desc := "(I)I" } : Jvm.MethodName)) ∈ zU := zU_i (i := 694) (by decide +kernel) (by decide +kernel)
set_option maxRecDepth 100000 in
theorem zw_695 : (Jvm.Cond.code ({ cls := "BalanceRoomModel", name := "code", desc := "(I)I" } : Jvm.MethodName) prog_8_method_19_code (2 : Nat) (Option.some Jvm.ClassFile.FieldType.int)) ∈ zU := zU_i (i := 695) (rfl) (by decide +kernel)
theorem zw_696 : (Jvm.Cond.methodLink "BalanceRoomModel" (102 : Nat) ({ cls := "BalanceRoomModel", name := "noWeighing", desc := "(I)Z" } : Jvm.MethodName)) ∈ zU := zU_i (i := 696) (by decide +kernel) (by decide +kernel)
theorem zw_698 : (Jvm.Cond.instanceMethod ({ cls := "BalanceRoomModel", name := "noWeighing", desc := "(I)Z" } : Jvm.MethodName)) ∈ zU := zU_i (i := 698) (by decide +kernel) (by decide +kernel)
set_option maxRecDepth 100000 in
theorem zw_699 : (Jvm.Cond.code ({ cls := "BalanceRoomModel", name := "noWeighing", desc := "(I)Z" } : Jvm.MethodName) prog_8_method_8_code (2 : Nat) (Option.some Jvm.ClassFile.FieldType.boolean)) ∈ zU := zU_i (i := 699) (rfl) (by decide +kernel)
theorem zw_700 : (Jvm.Cond.methodLink "BalanceRoomLaw" (38 : Nat) ({ cls := "BalanceRoomModel", name := "reading", desc := "(I)I" } : Jvm.MethodName)) ∈ zU := zU_i (i := 700) (by decide +kernel) (by decide +kernel)
theorem zw_701 : (Jvm.Cond.instanceMethod ({ cls := "BalanceRoomModel", name := "reading", desc := "(I)I" } : Jvm.MethodName)) ∈ zU := zU_i (i := 701) (by decide +kernel) (by decide +kernel)
theorem zw_702 : (Jvm.Cond.selects "BalanceRoomModel" ({ cls := "BalanceRoomModel", name := "reading", desc := "(I)I" } : Jvm.MethodName) ({ cls := "BalanceRoomModel", name := "reading", desc := "(I)I" } : Jvm.MethodName)) ∈ zU := zU_i (i := 702) (by decide +kernel) (by decide +kernel)
set_option maxRecDepth 100000 in
theorem zw_703 : (Jvm.Cond.code ({ cls := "BalanceRoomModel", name := "reading", desc := "(I)I" } : Jvm.MethodName) prog_8_method_20_code (2 : Nat) (Option.some Jvm.ClassFile.FieldType.int)) ∈ zU := zU_i (i := 703) (rfl) (by decide +kernel)
theorem zw_704 : (Jvm.Cond.methodLink "BalanceRoomLaw" (43 : Nat) ({ cls := "BalanceRoomModel", name := "weigh", desc := "(II)I" } : Jvm.MethodName)) ∈ zU := zU_i (i := 704) (by decide +kernel) (by decide +kernel)
theorem zw_705 : (Jvm.Cond.instanceMethod ({ cls := "BalanceRoomModel", name := "weigh", desc := "(II)I" } : Jvm.MethodName)) ∈ zU := zU_i (i := 705) (by decide +kernel) (by decide +kernel)
theorem zw_706 : (Jvm.Cond.selects "BalanceRoomModel" ({ cls := "BalanceRoomModel", name := "weigh", desc := "(II)I" } : Jvm.MethodName) ({ cls := "BalanceRoomModel", name := "weigh", desc := "(II)I" } : Jvm.MethodName)) ∈ zU := zU_i (i := 706) (by decide +kernel) (by decide +kernel)
set_option maxRecDepth 100000 in
theorem zw_707 : (Jvm.Cond.code ({ cls := "BalanceRoomModel", name := "weigh", desc := "(II)I" } : Jvm.MethodName) prog_8_method_23_code (3 : Nat) (Option.some Jvm.ClassFile.FieldType.int)) ∈ zU := zU_i (i := 707) (rfl) (by decide +kernel)
theorem zw_708 : (Jvm.Cond.methodLink "BalanceRoomModel" (109 : Nat) ({ cls := "BalanceRoomModel", name := "isCode", desc := "(I)Z" } : Jvm.MethodName)) ∈ zU := zU_i (i := 708) (by decide +kernel) (by decide +kernel)
theorem zw_710 : (Jvm.Cond.instanceMethod ({ cls := "BalanceRoomModel", name := "isCode", desc := "(I)Z" } : Jvm.MethodName)) ∈ zU := zU_i (i := 710) (by decide +kernel) (by decide +kernel)
set_option maxRecDepth 100000 in
theorem zw_711 : (Jvm.Cond.code ({ cls := "BalanceRoomModel", name := "isCode", desc := "(I)Z" } : Jvm.MethodName) prog_8_method_22_code (4 : Nat) (Option.some Jvm.ClassFile.FieldType.boolean)) ∈ zU := zU_i (i := 711) (rfl) (by decide +kernel)
theorem zw_712 : (Jvm.Cond.methodLink "BalanceRoomModel" (106 : Nat) ({ cls := "BalanceRoomModel", name := "power", desc := "(II)I" } : Jvm.MethodName)) ∈ zU := zU_i (i := 712) (by decide +kernel) (by decide +kernel)
theorem zw_713 : (Jvm.Cond.static ({ cls := "BalanceRoomModel", name := "power", desc := "(II)I" } : Jvm.MethodName)) ∈ zU := zU_i (i := 713) (by decide +kernel) (by decide +kernel)
set_option maxRecDepth 100000 in
theorem zw_714 : (Jvm.Cond.code ({ cls := "BalanceRoomModel", name := "power", desc := "(II)I" } : Jvm.MethodName) prog_8_method_6_code (4 : Nat) (Option.some Jvm.ClassFile.FieldType.int)) ∈ zU := zU_i (i := 714) (rfl) (by decide +kernel)
theorem zw_715 : (Jvm.Cond.constantLong "BalanceRoomModel" (112 : Nat) (-999 : Int64)) ∈ zU := zU_i (i := 715) (by decide +kernel) (by decide +kernel)
theorem zw_716 : (Jvm.Cond.constantLong "BalanceRoomModel" (114 : Nat) (999 : Int64)) ∈ zU := zU_i (i := 716) (by decide +kernel) (by decide +kernel)
theorem zw_717 : (Jvm.Cond.methodLink "BalanceRoomModel" (116 : Nat) ({ cls := "BalanceRoomModel", name := "note", desc := "()V" } : Jvm.MethodName)) ∈ zU := zU_i (i := 717) (by decide +kernel) (by decide +kernel)
theorem zw_719 : (Jvm.Cond.instanceMethod ({ cls := "BalanceRoomModel", name := "note", desc := "()V" } : Jvm.MethodName)) ∈ zU := zU_i (i := 719) (by decide +kernel) (by decide +kernel)
set_option maxRecDepth 100000 in
theorem zw_720 : (Jvm.Cond.code ({ cls := "BalanceRoomModel", name := "note", desc := "()V" } : Jvm.MethodName) prog_8_method_21_code (2 : Nat) (Option.none : Option Jvm.ClassFile.FieldType)) ∈ zU := zU_i (i := 720) (rfl) (by decide +kernel)
theorem zw_721 : (Jvm.Cond.methodLink "BalanceRoomLaw" (47 : Nat) ({ cls := "BalanceRoomModel", name := "take", desc := "(I)I" } : Jvm.MethodName)) ∈ zU := zU_i (i := 721) (by decide +kernel) (by decide +kernel)
theorem zw_722 : (Jvm.Cond.instanceMethod ({ cls := "BalanceRoomModel", name := "take", desc := "(I)I" } : Jvm.MethodName)) ∈ zU := zU_i (i := 722) (by decide +kernel) (by decide +kernel)
theorem zw_723 : (Jvm.Cond.selects "BalanceRoomModel" ({ cls := "BalanceRoomModel", name := "take", desc := "(I)I" } : Jvm.MethodName) ({ cls := "BalanceRoomModel", name := "take", desc := "(I)I" } : Jvm.MethodName)) ∈ zU := zU_i (i := 723) (by decide +kernel) (by decide +kernel)
set_option maxRecDepth 100000 in
theorem zw_724 : (Jvm.Cond.code ({ cls := "BalanceRoomModel", name := "take", desc := "(I)I" } : Jvm.MethodName) prog_8_method_26_code (2 : Nat) (Option.some Jvm.ClassFile.FieldType.int)) ∈ zU := zU_i (i := 724) (rfl) (by decide +kernel)
theorem zw_725 : (Jvm.Cond.methodLink "BalanceRoomModel" (119 : Nat) ({ cls := "BalanceRoomModel", name := "takeOn", desc := "([II)V" } : Jvm.MethodName)) ∈ zU := zU_i (i := 725) (by decide +kernel) (by decide +kernel)
theorem zw_726 : (Jvm.Cond.static ({ cls := "BalanceRoomModel", name := "takeOn", desc := "([II)V" } : Jvm.MethodName)) ∈ zU := zU_i (i := 726) (by decide +kernel) (by decide +kernel)
set_option maxRecDepth 100000 in
theorem zw_727 : (Jvm.Cond.code ({ cls := "BalanceRoomModel", name := "takeOn", desc := "([II)V" } : Jvm.MethodName) prog_8_method_24_code (3 : Nat) (Option.none : Option Jvm.ClassFile.FieldType)) ∈ zU := zU_i (i := 727) (rfl) (by decide +kernel)
theorem zw_728 : (Jvm.Cond.methodLink "BalanceRoomLaw" (51 : Nat) ({ cls := "BalanceRoomModel", name := "swap", desc := "(II)I" } : Jvm.MethodName)) ∈ zU := zU_i (i := 728) (by decide +kernel) (by decide +kernel)
theorem zw_729 : (Jvm.Cond.instanceMethod ({ cls := "BalanceRoomModel", name := "swap", desc := "(II)I" } : Jvm.MethodName)) ∈ zU := zU_i (i := 729) (by decide +kernel) (by decide +kernel)
theorem zw_730 : (Jvm.Cond.selects "BalanceRoomModel" ({ cls := "BalanceRoomModel", name := "swap", desc := "(II)I" } : Jvm.MethodName) ({ cls := "BalanceRoomModel", name := "swap", desc := "(II)I" } : Jvm.MethodName)) ∈ zU := zU_i (i := 730) (by decide +kernel) (by decide +kernel)
set_option maxRecDepth 100000 in
theorem zw_731 : (Jvm.Cond.code ({ cls := "BalanceRoomModel", name := "swap", desc := "(II)I" } : Jvm.MethodName) prog_8_method_27_code (3 : Nat) (Option.some Jvm.ClassFile.FieldType.int)) ∈ zU := zU_i (i := 731) (rfl) (by decide +kernel)
theorem zw_732 : (Jvm.Cond.methodLink "BalanceRoomModel" (123 : Nat) ({ cls := "BalanceRoomModel", name := "swapOn", desc := "([III)V" } : Jvm.MethodName)) ∈ zU := zU_i (i := 732) (by decide +kernel) (by decide +kernel)
theorem zw_733 : (Jvm.Cond.static ({ cls := "BalanceRoomModel", name := "swapOn", desc := "([III)V" } : Jvm.MethodName)) ∈ zU := zU_i (i := 733) (by decide +kernel) (by decide +kernel)
set_option maxRecDepth 100000 in
theorem zw_734 : (Jvm.Cond.code ({ cls := "BalanceRoomModel", name := "swapOn", desc := "([III)V" } : Jvm.MethodName) prog_8_method_25_code (5 : Nat) (Option.none : Option Jvm.ClassFile.FieldType)) ∈ zU := zU_i (i := 734) (rfl) (by decide +kernel)
theorem zw_735 : (Jvm.Cond.methodLink "BalanceRoomLaw" (55 : Nat) ({ cls := "BalanceRoomModel", name := "read", desc := "(II)I" } : Jvm.MethodName)) ∈ zU := zU_i (i := 735) (by decide +kernel) (by decide +kernel)
theorem zw_736 : (Jvm.Cond.instanceMethod ({ cls := "BalanceRoomModel", name := "read", desc := "(II)I" } : Jvm.MethodName)) ∈ zU := zU_i (i := 736) (by decide +kernel) (by decide +kernel)
theorem zw_737 : (Jvm.Cond.selects "BalanceRoomModel" ({ cls := "BalanceRoomModel", name := "read", desc := "(II)I" } : Jvm.MethodName) ({ cls := "BalanceRoomModel", name := "read", desc := "(II)I" } : Jvm.MethodName)) ∈ zU := zU_i (i := 737) (by decide +kernel) (by decide +kernel)
set_option maxRecDepth 100000 in
theorem zw_738 : (Jvm.Cond.code ({ cls := "BalanceRoomModel", name := "read", desc := "(II)I" } : Jvm.MethodName) prog_8_method_28_code (4 : Nat) (Option.some Jvm.ClassFile.FieldType.int)) ∈ zU := zU_i (i := 738) (rfl) (by decide +kernel)
theorem zw_739 : (Jvm.Cond.methodLink "BalanceRoomLaw" (59 : Nat) ({ cls := "BalanceRoomModel", name := "master", desc := "(I)I" } : Jvm.MethodName)) ∈ zU := zU_i (i := 739) (by decide +kernel) (by decide +kernel)
theorem zw_740 : (Jvm.Cond.instanceMethod ({ cls := "BalanceRoomModel", name := "master", desc := "(I)I" } : Jvm.MethodName)) ∈ zU := zU_i (i := 740) (by decide +kernel) (by decide +kernel)
theorem zw_741 : (Jvm.Cond.selects "BalanceRoomModel" ({ cls := "BalanceRoomModel", name := "master", desc := "(I)I" } : Jvm.MethodName) ({ cls := "BalanceRoomModel", name := "master", desc := "(I)I" } : Jvm.MethodName)) ∈ zU := zU_i (i := 741) (by decide +kernel) (by decide +kernel)
set_option maxRecDepth 100000 in
theorem zw_742 : (Jvm.Cond.code ({ cls := "BalanceRoomModel", name := "master", desc := "(I)I" } : Jvm.MethodName) prog_8_method_29_code (3 : Nat) (Option.some Jvm.ClassFile.FieldType.int)) ∈ zU := zU_i (i := 742) (rfl) (by decide +kernel)
theorem zw_743 : (Jvm.Cond.constantLong "BalanceRoomModel" (127 : Nat) (99 : Int64)) ∈ zU := zU_i (i := 743) (by decide +kernel) (by decide +kernel)
theorem zw_744 : (Jvm.Cond.methodLink "BalanceRoomLaw" (63 : Nat) ({ cls := "BalanceRoomModel", name := "undo", desc := "()I" } : Jvm.MethodName)) ∈ zU := zU_i (i := 744) (by decide +kernel) (by decide +kernel)
theorem zw_745 : (Jvm.Cond.instanceMethod ({ cls := "BalanceRoomModel", name := "undo", desc := "()I" } : Jvm.MethodName)) ∈ zU := zU_i (i := 745) (by decide +kernel) (by decide +kernel)
theorem zw_746 : (Jvm.Cond.selects "BalanceRoomModel" ({ cls := "BalanceRoomModel", name := "undo", desc := "()I" } : Jvm.MethodName) ({ cls := "BalanceRoomModel", name := "undo", desc := "()I" } : Jvm.MethodName)) ∈ zU := zU_i (i := 746) (by decide +kernel) (by decide +kernel)
set_option maxRecDepth 100000 in
theorem zw_747 : (Jvm.Cond.code ({ cls := "BalanceRoomModel", name := "undo", desc := "()I" } : Jvm.MethodName) prog_8_method_30_code (2 : Nat) (Option.some Jvm.ClassFile.FieldType.int)) ∈ zU := zU_i (i := 747) (rfl) (by decide +kernel)
theorem zw_748 : (Jvm.Cond.methodLink "BalanceRoomLaw" (68 : Nat) ({ cls := "BalanceRoomModel", name := "rank", desc := "(Z)I" } : Jvm.MethodName)) ∈ zU := zU_i (i := 748) (by decide +kernel) (by decide +kernel)
theorem zw_749 : (Jvm.Cond.instanceMethod ({ cls := "BalanceRoomModel", name := "rank", desc := "(Z)I" } : Jvm.MethodName)) ∈ zU := zU_i (i := 749) (by decide +kernel) (by decide +kernel)
theorem zw_750 : (Jvm.Cond.selects "BalanceRoomModel" ({ cls := "BalanceRoomModel", name := "rank", desc := "(Z)I" } : Jvm.MethodName) ({ cls := "BalanceRoomModel", name := "rank", desc := "(Z)I" } : Jvm.MethodName)) ∈ zU := zU_i (i := 750) (by decide +kernel) (by decide +kernel)
set_option maxRecDepth 100000 in
theorem zw_751 : (Jvm.Cond.code ({ cls := "BalanceRoomModel", name := "rank", desc := "(Z)I" } : Jvm.MethodName) prog_8_method_45_code (2 : Nat) (Option.some Jvm.ClassFile.FieldType.int)) ∈ zU := zU_i (i := 751) (rfl) (by decide +kernel)
theorem zw_752 : (Jvm.Cond.methodLink "BalanceRoomModel" (180 : Nat) ({ cls := "BalanceRoomModel", name := "allOf", desc := "([I)I" } : Jvm.MethodName)) ∈ zU := zU_i (i := 752) (by decide +kernel) (by decide +kernel)
theorem zw_753 : (Jvm.Cond.static ({ cls := "BalanceRoomModel", name := "allOf", desc := "([I)I" } : Jvm.MethodName)) ∈ zU := zU_i (i := 753) (by decide +kernel) (by decide +kernel)
set_option maxRecDepth 100000 in
theorem zw_754 : (Jvm.Cond.code ({ cls := "BalanceRoomModel", name := "allOf", desc := "([I)I" } : Jvm.MethodName) prog_8_method_9_code (1 : Nat) (Option.some Jvm.ClassFile.FieldType.int)) ∈ zU := zU_i (i := 754) (rfl) (by decide +kernel)
theorem zw_755 : (Jvm.Cond.methodLink "BalanceRoomModel" (184 : Nat) ({ cls := "BalanceRoomModel", name := "rankOf", desc := "([IIZ)I" } : Jvm.MethodName)) ∈ zU := zU_i (i := 755) (by decide +kernel) (by decide +kernel)
theorem zw_757 : (Jvm.Cond.instanceMethod ({ cls := "BalanceRoomModel", name := "rankOf", desc := "([IIZ)I" } : Jvm.MethodName)) ∈ zU := zU_i (i := 757) (by decide +kernel) (by decide +kernel)
set_option maxRecDepth 100000 in
theorem zw_758 : (Jvm.Cond.code ({ cls := "BalanceRoomModel", name := "rankOf", desc := "([IIZ)I" } : Jvm.MethodName) prog_8_method_38_code (6 : Nat) (Option.some Jvm.ClassFile.FieldType.int)) ∈ zU := zU_i (i := 758) (rfl) (by decide +kernel)
theorem zw_759 : (Jvm.Cond.methodLink "BalanceRoomModel" (152 : Nat) ({ cls := "BalanceRoomModel", name := "layGram", desc := "([IIZ)V" } : Jvm.MethodName)) ∈ zU := zU_i (i := 759) (by decide +kernel) (by decide +kernel)
theorem zw_761 : (Jvm.Cond.instanceMethod ({ cls := "BalanceRoomModel", name := "layGram", desc := "([IIZ)V" } : Jvm.MethodName)) ∈ zU := zU_i (i := 761) (by decide +kernel) (by decide +kernel)
set_option maxRecDepth 100000 in
theorem zw_762 : (Jvm.Cond.code ({ cls := "BalanceRoomModel", name := "layGram", desc := "([IIZ)V" } : Jvm.MethodName) prog_8_method_34_code (9 : Nat) (Option.none : Option Jvm.ClassFile.FieldType)) ∈ zU := zU_i (i := 762) (rfl) (by decide +kernel)
theorem zw_763 : (Jvm.Cond.methodLink "BalanceRoomModel" (136 : Nat) ({ cls := "BalanceRoomModel", name := "has", desc := "(II)Z" } : Jvm.MethodName)) ∈ zU := zU_i (i := 763) (by decide +kernel) (by decide +kernel)
theorem zw_764 : (Jvm.Cond.static ({ cls := "BalanceRoomModel", name := "has", desc := "(II)Z" } : Jvm.MethodName)) ∈ zU := zU_i (i := 764) (by decide +kernel) (by decide +kernel)
set_option maxRecDepth 100000 in
theorem zw_765 : (Jvm.Cond.code ({ cls := "BalanceRoomModel", name := "has", desc := "(II)Z" } : Jvm.MethodName) prog_8_method_4_code (2 : Nat) (Option.some Jvm.ClassFile.FieldType.boolean)) ∈ zU := zU_i (i := 765) (rfl) (by decide +kernel)
theorem zw_766 : (Jvm.Cond.methodLink "BalanceRoomModel" (140 : Nat) ({ cls := "BalanceRoomModel", name := "layColumns", desc := "([IIZ)V" } : Jvm.MethodName)) ∈ zU := zU_i (i := 766) (by decide +kernel) (by decide +kernel)
theorem zw_768 : (Jvm.Cond.instanceMethod ({ cls := "BalanceRoomModel", name := "layColumns", desc := "([IIZ)V" } : Jvm.MethodName)) ∈ zU := zU_i (i := 768) (by decide +kernel) (by decide +kernel)
set_option maxRecDepth 100000 in
theorem zw_769 : (Jvm.Cond.code ({ cls := "BalanceRoomModel", name := "layColumns", desc := "([IIZ)V" } : Jvm.MethodName) prog_8_method_32_code (5 : Nat) (Option.none : Option Jvm.ClassFile.FieldType)) ∈ zU := zU_i (i := 769) (rfl) (by decide +kernel)
theorem zw_770 : (Jvm.Cond.methodLink "BalanceRoomModel" (129 : Nat) ({ cls := "BalanceRoomModel", name := "panOf", desc := "(II)I" } : Jvm.MethodName)) ∈ zU := zU_i (i := 770) (by decide +kernel) (by decide +kernel)
theorem zw_772 : (Jvm.Cond.instanceMethod ({ cls := "BalanceRoomModel", name := "panOf", desc := "(II)I" } : Jvm.MethodName)) ∈ zU := zU_i (i := 772) (by decide +kernel) (by decide +kernel)
set_option maxRecDepth 100000 in
theorem zw_773 : (Jvm.Cond.code ({ cls := "BalanceRoomModel", name := "panOf", desc := "(II)I" } : Jvm.MethodName) prog_8_method_31_code (4 : Nat) (Option.some Jvm.ClassFile.FieldType.int)) ∈ zU := zU_i (i := 773) (rfl) (by decide +kernel)
theorem zw_774 : (Jvm.Cond.methodLink "BalanceRoomModel" (144 : Nat) ({ cls := "BalanceRoomModel", name := "pureOf", desc := "([III)I" } : Jvm.MethodName)) ∈ zU := zU_i (i := 774) (by decide +kernel) (by decide +kernel)
theorem zw_775 : (Jvm.Cond.static ({ cls := "BalanceRoomModel", name := "pureOf", desc := "([III)I" } : Jvm.MethodName)) ∈ zU := zU_i (i := 775) (by decide +kernel) (by decide +kernel)
set_option maxRecDepth 100000 in
theorem zw_776 : (Jvm.Cond.code ({ cls := "BalanceRoomModel", name := "pureOf", desc := "([III)I" } : Jvm.MethodName) prog_8_method_33_code (3 : Nat) (Option.some Jvm.ClassFile.FieldType.int)) ∈ zU := zU_i (i := 776) (rfl) (by decide +kernel)
theorem zw_777 : (Jvm.Cond.methodLink "BalanceRoomModel" (155 : Nat) ({ cls := "BalanceRoomModel", name := "columns", desc := "()I" } : Jvm.MethodName)) ∈ zU := zU_i (i := 777) (by decide +kernel) (by decide +kernel)
theorem zw_779 : (Jvm.Cond.instanceMethod ({ cls := "BalanceRoomModel", name := "columns", desc := "()I" } : Jvm.MethodName)) ∈ zU := zU_i (i := 779) (by decide +kernel) (by decide +kernel)
set_option maxRecDepth 100000 in
theorem zw_780 : (Jvm.Cond.code ({ cls := "BalanceRoomModel", name := "columns", desc := "()I" } : Jvm.MethodName) prog_8_method_37_code (1 : Nat) (Option.some Jvm.ClassFile.FieldType.int)) ∈ zU := zU_i (i := 780) (rfl) (by decide +kernel)
theorem zw_781 : (Jvm.Cond.methodLink "BalanceRoomModel" (158 : Nat) ({ cls := "BalanceRoomModel", name := "ones", desc := "(I)I" } : Jvm.MethodName)) ∈ zU := zU_i (i := 781) (by decide +kernel) (by decide +kernel)
theorem zw_782 : (Jvm.Cond.static ({ cls := "BalanceRoomModel", name := "ones", desc := "(I)I" } : Jvm.MethodName)) ∈ zU := zU_i (i := 782) (by decide +kernel) (by decide +kernel)
set_option maxRecDepth 100000 in
theorem zw_783 : (Jvm.Cond.code ({ cls := "BalanceRoomModel", name := "ones", desc := "(I)I" } : Jvm.MethodName) prog_8_method_5_code (3 : Nat) (Option.some Jvm.ClassFile.FieldType.int)) ∈ zU := zU_i (i := 783) (rfl) (by decide +kernel)
theorem zw_784 : (Jvm.Cond.methodLink "BalanceRoomModel" (162 : Nat) ({ cls := "BalanceRoomModel", name := "minor", desc := "(II)J" } : Jvm.MethodName)) ∈ zU := zU_i (i := 784) (by decide +kernel) (by decide +kernel)
theorem zw_786 : (Jvm.Cond.instanceMethod ({ cls := "BalanceRoomModel", name := "minor", desc := "(II)J" } : Jvm.MethodName)) ∈ zU := zU_i (i := 786) (by decide +kernel) (by decide +kernel)
set_option maxRecDepth 100000 in
theorem zw_787 : (Jvm.Cond.code ({ cls := "BalanceRoomModel", name := "minor", desc := "(II)J" } : Jvm.MethodName) prog_8_method_36_code (6 : Nat) (Option.some Jvm.ClassFile.FieldType.long)) ∈ zU := zU_i (i := 787) (rfl) (by decide +kernel)
theorem zw_788 : (Jvm.Cond.methodLink "BalanceRoomModel" (148 : Nat) ({ cls := "BalanceRoomModel", name := "determinant", desc := "(I)J" } : Jvm.MethodName)) ∈ zU := zU_i (i := 788) (by decide +kernel) (by decide +kernel)
theorem zw_790 : (Jvm.Cond.instanceMethod ({ cls := "BalanceRoomModel", name := "determinant", desc := "(I)J" } : Jvm.MethodName)) ∈ zU := zU_i (i := 790) (by decide +kernel) (by decide +kernel)
set_option maxRecDepth 100000 in
theorem zw_791 : (Jvm.Cond.code ({ cls := "BalanceRoomModel", name := "determinant", desc := "(I)J" } : Jvm.MethodName) prog_8_method_35_code (11 : Nat) (Option.some Jvm.ClassFile.FieldType.long)) ∈ zU := zU_i (i := 791) (rfl) (by decide +kernel)
theorem zw_792 : (Jvm.Cond.methodLink "BalanceRoomLaw" (73 : Nat) ({ cls := "BalanceRoomModel", name := "value", desc := "(IZZ)J" } : Jvm.MethodName)) ∈ zU := zU_i (i := 792) (by decide +kernel) (by decide +kernel)
theorem zw_793 : (Jvm.Cond.instanceMethod ({ cls := "BalanceRoomModel", name := "value", desc := "(IZZ)J" } : Jvm.MethodName)) ∈ zU := zU_i (i := 793) (by decide +kernel) (by decide +kernel)
theorem zw_794 : (Jvm.Cond.selects "BalanceRoomModel" ({ cls := "BalanceRoomModel", name := "value", desc := "(IZZ)J" } : Jvm.MethodName) ({ cls := "BalanceRoomModel", name := "value", desc := "(IZZ)J" } : Jvm.MethodName)) ∈ zU := zU_i (i := 794) (by decide +kernel) (by decide +kernel)
set_option maxRecDepth 100000 in
theorem zw_795 : (Jvm.Cond.code ({ cls := "BalanceRoomModel", name := "value", desc := "(IZZ)J" } : Jvm.MethodName) prog_8_method_47_code (4 : Nat) (Option.some Jvm.ClassFile.FieldType.long)) ∈ zU := zU_i (i := 795) (rfl) (by decide +kernel)
theorem zw_796 : (Jvm.Cond.methodLink "BalanceRoomModel" (188 : Nat) ({ cls := "BalanceRoomModel", name := "noColumn", desc := "(IZ)Z" } : Jvm.MethodName)) ∈ zU := zU_i (i := 796) (by decide +kernel) (by decide +kernel)
theorem zw_798 : (Jvm.Cond.instanceMethod ({ cls := "BalanceRoomModel", name := "noColumn", desc := "(IZ)Z" } : Jvm.MethodName)) ∈ zU := zU_i (i := 798) (by decide +kernel) (by decide +kernel)
set_option maxRecDepth 100000 in
theorem zw_799 : (Jvm.Cond.code ({ cls := "BalanceRoomModel", name := "noColumn", desc := "(IZ)Z" } : Jvm.MethodName) prog_8_method_46_code (3 : Nat) (Option.some Jvm.ClassFile.FieldType.boolean)) ∈ zU := zU_i (i := 799) (rfl) (by decide +kernel)
theorem zw_800 : (Jvm.Cond.constantLong "BalanceRoomModel" (192 : Nat) (-1 : Int64)) ∈ zU := zU_i (i := 800) (by decide +kernel) (by decide +kernel)
theorem zw_801 : (Jvm.Cond.methodLink "BalanceRoomModel" (194 : Nat) ({ cls := "BalanceRoomModel", name := "isLaid", desc := "([IIZ)Z" } : Jvm.MethodName)) ∈ zU := zU_i (i := 801) (by decide +kernel) (by decide +kernel)
theorem zw_803 : (Jvm.Cond.instanceMethod ({ cls := "BalanceRoomModel", name := "isLaid", desc := "([IIZ)Z" } : Jvm.MethodName)) ∈ zU := zU_i (i := 803) (by decide +kernel) (by decide +kernel)
set_option maxRecDepth 100000 in
theorem zw_804 : (Jvm.Cond.code ({ cls := "BalanceRoomModel", name := "isLaid", desc := "([IIZ)Z" } : Jvm.MethodName) prog_8_method_39_code (4 : Nat) (Option.some Jvm.ClassFile.FieldType.boolean)) ∈ zU := zU_i (i := 804) (rfl) (by decide +kernel)
theorem zw_805 : (Jvm.Cond.constantLong "BalanceRoomModel" (198 : Nat) (-3 : Int64)) ∈ zU := zU_i (i := 805) (by decide +kernel) (by decide +kernel)
theorem zw_806 : (Jvm.Cond.methodLink "BalanceRoomModel" (176 : Nat) ({ cls := "BalanceRoomModel", name := "layFraction", desc := "(JJ)V" } : Jvm.MethodName)) ∈ zU := zU_i (i := 806) (by decide +kernel) (by decide +kernel)
theorem zw_808 : (Jvm.Cond.instanceMethod ({ cls := "BalanceRoomModel", name := "layFraction", desc := "(JJ)V" } : Jvm.MethodName)) ∈ zU := zU_i (i := 808) (by decide +kernel) (by decide +kernel)
set_option maxRecDepth 100000 in
theorem zw_809 : (Jvm.Cond.code ({ cls := "BalanceRoomModel", name := "layFraction", desc := "(JJ)V" } : Jvm.MethodName) prog_8_method_41_code (7 : Nat) (Option.none : Option Jvm.ClassFile.FieldType)) ∈ zU := zU_i (i := 809) (rfl) (by decide +kernel)
theorem zw_810 : (Jvm.Cond.methodLink "BalanceRoomModel" (166 : Nat) ({ cls := "BalanceRoomModel", name := "divisor", desc := "(JJ)J" } : Jvm.MethodName)) ∈ zU := zU_i (i := 810) (by decide +kernel) (by decide +kernel)
theorem zw_811 : (Jvm.Cond.static ({ cls := "BalanceRoomModel", name := "divisor", desc := "(JJ)J" } : Jvm.MethodName)) ∈ zU := zU_i (i := 811) (by decide +kernel) (by decide +kernel)
set_option maxRecDepth 100000 in
theorem zw_812 : (Jvm.Cond.code ({ cls := "BalanceRoomModel", name := "divisor", desc := "(JJ)J" } : Jvm.MethodName) prog_8_method_40_code (10 : Nat) (Option.some Jvm.ClassFile.FieldType.long)) ∈ zU := zU_i (i := 812) (rfl) (by decide +kernel)
theorem zw_813 : (Jvm.Cond.methodLink "BalanceRoomModel" (200 : Nat) ({ cls := "BalanceRoomModel", name := "told", desc := "(Z)J" } : Jvm.MethodName)) ∈ zU := zU_i (i := 813) (by decide +kernel) (by decide +kernel)
theorem zw_815 : (Jvm.Cond.instanceMethod ({ cls := "BalanceRoomModel", name := "told", desc := "(Z)J" } : Jvm.MethodName)) ∈ zU := zU_i (i := 815) (by decide +kernel) (by decide +kernel)
set_option maxRecDepth 100000 in
theorem zw_816 : (Jvm.Cond.code ({ cls := "BalanceRoomModel", name := "told", desc := "(Z)J" } : Jvm.MethodName) prog_8_method_42_code (2 : Nat) (Option.some Jvm.ClassFile.FieldType.long)) ∈ zU := zU_i (i := 816) (rfl) (by decide +kernel)
theorem zw_817 : (Jvm.Cond.methodLink "BalanceRoomLaw" (77 : Nat) ({ cls := "BalanceRoomModel", name := "spread", desc := "(IZZ)J" } : Jvm.MethodName)) ∈ zU := zU_i (i := 817) (by decide +kernel) (by decide +kernel)
theorem zw_818 : (Jvm.Cond.instanceMethod ({ cls := "BalanceRoomModel", name := "spread", desc := "(IZZ)J" } : Jvm.MethodName)) ∈ zU := zU_i (i := 818) (by decide +kernel) (by decide +kernel)
theorem zw_819 : (Jvm.Cond.selects "BalanceRoomModel" ({ cls := "BalanceRoomModel", name := "spread", desc := "(IZZ)J" } : Jvm.MethodName) ({ cls := "BalanceRoomModel", name := "spread", desc := "(IZZ)J" } : Jvm.MethodName)) ∈ zU := zU_i (i := 819) (by decide +kernel) (by decide +kernel)
set_option maxRecDepth 100000 in
theorem zw_820 : (Jvm.Cond.code ({ cls := "BalanceRoomModel", name := "spread", desc := "(IZZ)J" } : Jvm.MethodName) prog_8_method_48_code (4 : Nat) (Option.some Jvm.ClassFile.FieldType.long)) ∈ zU := zU_i (i := 820) (rfl) (by decide +kernel)
theorem zw_821 : (Jvm.Cond.methodLink "BalanceRoomLaw" (82 : Nat) ({ cls := "BalanceRoomModel", name := "total", desc := "(ZZ)J" } : Jvm.MethodName)) ∈ zU := zU_i (i := 821) (by decide +kernel) (by decide +kernel)
theorem zw_822 : (Jvm.Cond.instanceMethod ({ cls := "BalanceRoomModel", name := "total", desc := "(ZZ)J" } : Jvm.MethodName)) ∈ zU := zU_i (i := 822) (by decide +kernel) (by decide +kernel)
theorem zw_823 : (Jvm.Cond.selects "BalanceRoomModel" ({ cls := "BalanceRoomModel", name := "total", desc := "(ZZ)J" } : Jvm.MethodName) ({ cls := "BalanceRoomModel", name := "total", desc := "(ZZ)J" } : Jvm.MethodName)) ∈ zU := zU_i (i := 823) (by decide +kernel) (by decide +kernel)
set_option maxRecDepth 100000 in
theorem zw_824 : (Jvm.Cond.code ({ cls := "BalanceRoomModel", name := "total", desc := "(ZZ)J" } : Jvm.MethodName) prog_8_method_49_code (3 : Nat) (Option.some Jvm.ClassFile.FieldType.long)) ∈ zU := zU_i (i := 824) (rfl) (by decide +kernel)
theorem zw_825 : (Jvm.Cond.methodLink "BalanceRoomModel" (204 : Nat) ({ cls := "BalanceRoomModel", name := "layTotal", desc := "()V" } : Jvm.MethodName)) ∈ zU := zU_i (i := 825) (by decide +kernel) (by decide +kernel)
theorem zw_827 : (Jvm.Cond.instanceMethod ({ cls := "BalanceRoomModel", name := "layTotal", desc := "()V" } : Jvm.MethodName)) ∈ zU := zU_i (i := 827) (by decide +kernel) (by decide +kernel)
set_option maxRecDepth 100000 in
theorem zw_828 : (Jvm.Cond.code ({ cls := "BalanceRoomModel", name := "layTotal", desc := "()V" } : Jvm.MethodName) prog_8_method_43_code (4 : Nat) (Option.none : Option Jvm.ClassFile.FieldType)) ∈ zU := zU_i (i := 828) (rfl) (by decide +kernel)
theorem zw_829 : (Jvm.Cond.methodLink "BalanceRoomLaw" (86 : Nat) ({ cls := "BalanceRoomModel", name := "rest", desc := "(IZZ)J" } : Jvm.MethodName)) ∈ zU := zU_i (i := 829) (by decide +kernel) (by decide +kernel)
theorem zw_830 : (Jvm.Cond.instanceMethod ({ cls := "BalanceRoomModel", name := "rest", desc := "(IZZ)J" } : Jvm.MethodName)) ∈ zU := zU_i (i := 830) (by decide +kernel) (by decide +kernel)
theorem zw_831 : (Jvm.Cond.selects "BalanceRoomModel" ({ cls := "BalanceRoomModel", name := "rest", desc := "(IZZ)J" } : Jvm.MethodName) ({ cls := "BalanceRoomModel", name := "rest", desc := "(IZZ)J" } : Jvm.MethodName)) ∈ zU := zU_i (i := 831) (by decide +kernel) (by decide +kernel)
set_option maxRecDepth 100000 in
theorem zw_832 : (Jvm.Cond.code ({ cls := "BalanceRoomModel", name := "rest", desc := "(IZZ)J" } : Jvm.MethodName) prog_8_method_50_code (9 : Nat) (Option.some Jvm.ClassFile.FieldType.long)) ∈ zU := zU_i (i := 832) (rfl) (by decide +kernel)
theorem zw_833 : (Jvm.Cond.methodLink "BalanceRoomLaw" (90 : Nat) ({ cls := "BalanceRoomModel", name := "squares", desc := "(ZZ)J" } : Jvm.MethodName)) ∈ zU := zU_i (i := 833) (by decide +kernel) (by decide +kernel)
theorem zw_834 : (Jvm.Cond.instanceMethod ({ cls := "BalanceRoomModel", name := "squares", desc := "(ZZ)J" } : Jvm.MethodName)) ∈ zU := zU_i (i := 834) (by decide +kernel) (by decide +kernel)
theorem zw_835 : (Jvm.Cond.selects "BalanceRoomModel" ({ cls := "BalanceRoomModel", name := "squares", desc := "(ZZ)J" } : Jvm.MethodName) ({ cls := "BalanceRoomModel", name := "squares", desc := "(ZZ)J" } : Jvm.MethodName)) ∈ zU := zU_i (i := 835) (by decide +kernel) (by decide +kernel)
set_option maxRecDepth 100000 in
theorem zw_836 : (Jvm.Cond.code ({ cls := "BalanceRoomModel", name := "squares", desc := "(ZZ)J" } : Jvm.MethodName) prog_8_method_51_code (3 : Nat) (Option.some Jvm.ClassFile.FieldType.long)) ∈ zU := zU_i (i := 836) (rfl) (by decide +kernel)
theorem zw_837 : (Jvm.Cond.methodLink "BalanceRoomModel" (207 : Nat) ({ cls := "BalanceRoomModel", name := "laySquares", desc := "()V" } : Jvm.MethodName)) ∈ zU := zU_i (i := 837) (by decide +kernel) (by decide +kernel)
theorem zw_839 : (Jvm.Cond.instanceMethod ({ cls := "BalanceRoomModel", name := "laySquares", desc := "()V" } : Jvm.MethodName)) ∈ zU := zU_i (i := 839) (by decide +kernel) (by decide +kernel)
set_option maxRecDepth 100000 in
theorem zw_840 : (Jvm.Cond.code ({ cls := "BalanceRoomModel", name := "laySquares", desc := "()V" } : Jvm.MethodName) prog_8_method_44_code (6 : Nat) (Option.none : Option Jvm.ClassFile.FieldType)) ∈ zU := zU_i (i := 840) (rfl) (by decide +kernel)
theorem zw_841 : (Jvm.Cond.methodLink "BalanceRoomLaw" (94 : Nat) ({ cls := "BalanceRoomModel", name := "next", desc := "(Z)I" } : Jvm.MethodName)) ∈ zU := zU_i (i := 841) (by decide +kernel) (by decide +kernel)
theorem zw_842 : (Jvm.Cond.instanceMethod ({ cls := "BalanceRoomModel", name := "next", desc := "(Z)I" } : Jvm.MethodName)) ∈ zU := zU_i (i := 842) (by decide +kernel) (by decide +kernel)
theorem zw_843 : (Jvm.Cond.selects "BalanceRoomModel" ({ cls := "BalanceRoomModel", name := "next", desc := "(Z)I" } : Jvm.MethodName) ({ cls := "BalanceRoomModel", name := "next", desc := "(Z)I" } : Jvm.MethodName)) ∈ zU := zU_i (i := 843) (by decide +kernel) (by decide +kernel)
set_option maxRecDepth 100000 in
theorem zw_844 : (Jvm.Cond.code ({ cls := "BalanceRoomModel", name := "next", desc := "(Z)I" } : Jvm.MethodName) prog_8_method_52_code (10 : Nat) (Option.some Jvm.ClassFile.FieldType.int)) ∈ zU := zU_i (i := 844) (rfl) (by decide +kernel)
theorem zw_845 : (Jvm.Cond.methodLink "BalanceRoomLaw" (98 : Nat) ({ cls := "BalanceRoomModel", name := "better", desc := "()I" } : Jvm.MethodName)) ∈ zU := zU_i (i := 845) (by decide +kernel) (by decide +kernel)
theorem zw_846 : (Jvm.Cond.instanceMethod ({ cls := "BalanceRoomModel", name := "better", desc := "()I" } : Jvm.MethodName)) ∈ zU := zU_i (i := 846) (by decide +kernel) (by decide +kernel)
theorem zw_847 : (Jvm.Cond.selects "BalanceRoomModel" ({ cls := "BalanceRoomModel", name := "better", desc := "()I" } : Jvm.MethodName) ({ cls := "BalanceRoomModel", name := "better", desc := "()I" } : Jvm.MethodName)) ∈ zU := zU_i (i := 847) (by decide +kernel) (by decide +kernel)
set_option maxRecDepth 100000 in
theorem zw_848 : (Jvm.Cond.code ({ cls := "BalanceRoomModel", name := "better", desc := "()I" } : Jvm.MethodName) prog_8_method_53_code (8 : Nat) (Option.some Jvm.ClassFile.FieldType.int)) ∈ zU := zU_i (i := 848) (rfl) (by decide +kernel)
theorem zw_849 : (Jvm.Cond.methodLink "BalanceRoomLaw" (102 : Nat) ({ cls := "BalanceRoomModel", name := "doubtful", desc := "(Z)I" } : Jvm.MethodName)) ∈ zU := zU_i (i := 849) (by decide +kernel) (by decide +kernel)
theorem zw_850 : (Jvm.Cond.instanceMethod ({ cls := "BalanceRoomModel", name := "doubtful", desc := "(Z)I" } : Jvm.MethodName)) ∈ zU := zU_i (i := 850) (by decide +kernel) (by decide +kernel)
theorem zw_851 : (Jvm.Cond.selects "BalanceRoomModel" ({ cls := "BalanceRoomModel", name := "doubtful", desc := "(Z)I" } : Jvm.MethodName) ({ cls := "BalanceRoomModel", name := "doubtful", desc := "(Z)I" } : Jvm.MethodName)) ∈ zU := zU_i (i := 851) (by decide +kernel) (by decide +kernel)
set_option maxRecDepth 100000 in
theorem zw_852 : (Jvm.Cond.code ({ cls := "BalanceRoomModel", name := "doubtful", desc := "(Z)I" } : Jvm.MethodName) prog_8_method_55_code (2 : Nat) (Option.some Jvm.ClassFile.FieldType.int)) ∈ zU := zU_i (i := 852) (rfl) (by decide +kernel)
theorem zw_853 : (Jvm.Cond.methodLink "BalanceRoomModel" (210 : Nat) ({ cls := "BalanceRoomModel", name := "doubtfulOf", desc := "([IZ)I" } : Jvm.MethodName)) ∈ zU := zU_i (i := 853) (by decide +kernel) (by decide +kernel)
theorem zw_855 : (Jvm.Cond.instanceMethod ({ cls := "BalanceRoomModel", name := "doubtfulOf", desc := "([IZ)I" } : Jvm.MethodName)) ∈ zU := zU_i (i := 855) (by decide +kernel) (by decide +kernel)
set_option maxRecDepth 100000 in
theorem zw_856 : (Jvm.Cond.code ({ cls := "BalanceRoomModel", name := "doubtfulOf", desc := "([IZ)I" } : Jvm.MethodName) prog_8_method_54_code (9 : Nat) (Option.some Jvm.ClassFile.FieldType.int)) ∈ zU := zU_i (i := 856) (rfl) (by decide +kernel)
theorem zw_857 : (Jvm.Cond.methodLink "BalanceRoomLaw" (106 : Nat) ({ cls := "BalanceRoomModel", name := "wrong", desc := "(Z)I" } : Jvm.MethodName)) ∈ zU := zU_i (i := 857) (by decide +kernel) (by decide +kernel)
theorem zw_858 : (Jvm.Cond.instanceMethod ({ cls := "BalanceRoomModel", name := "wrong", desc := "(Z)I" } : Jvm.MethodName)) ∈ zU := zU_i (i := 858) (by decide +kernel) (by decide +kernel)
theorem zw_859 : (Jvm.Cond.selects "BalanceRoomModel" ({ cls := "BalanceRoomModel", name := "wrong", desc := "(Z)I" } : Jvm.MethodName) ({ cls := "BalanceRoomModel", name := "wrong", desc := "(Z)I" } : Jvm.MethodName)) ∈ zU := zU_i (i := 859) (by decide +kernel) (by decide +kernel)
set_option maxRecDepth 100000 in
theorem zw_860 : (Jvm.Cond.code ({ cls := "BalanceRoomModel", name := "wrong", desc := "(Z)I" } : Jvm.MethodName) prog_8_method_56_code (4 : Nat) (Option.some Jvm.ClassFile.FieldType.int)) ∈ zU := zU_i (i := 860) (rfl) (by decide +kernel)
theorem zw_861 : (Jvm.Cond.methodLink "BalanceRoomLaw" (113 : Nat) ({ cls := "BalanceRoomModel", name := "judge", desc := "(IJ)I" } : Jvm.MethodName)) ∈ zU := zU_i (i := 861) (by decide +kernel) (by decide +kernel)
theorem zw_862 : (Jvm.Cond.instanceMethod ({ cls := "BalanceRoomModel", name := "judge", desc := "(IJ)I" } : Jvm.MethodName)) ∈ zU := zU_i (i := 862) (by decide +kernel) (by decide +kernel)
theorem zw_863 : (Jvm.Cond.selects "BalanceRoomModel" ({ cls := "BalanceRoomModel", name := "judge", desc := "(IJ)I" } : Jvm.MethodName) ({ cls := "BalanceRoomModel", name := "judge", desc := "(IJ)I" } : Jvm.MethodName)) ∈ zU := zU_i (i := 863) (by decide +kernel) (by decide +kernel)
set_option maxRecDepth 100000 in
theorem zw_864 : (Jvm.Cond.code ({ cls := "BalanceRoomModel", name := "judge", desc := "(IJ)I" } : Jvm.MethodName) prog_8_method_60_code (6 : Nat) (Option.some Jvm.ClassFile.FieldType.int)) ∈ zU := zU_i (i := 864) (rfl) (by decide +kernel)
theorem zw_865 : (Jvm.Cond.constantLong "BalanceRoomModel" (217 : Nat) (4 : Int64)) ∈ zU := zU_i (i := 865) (by decide +kernel) (by decide +kernel)
theorem zw_866 : (Jvm.Cond.constantLong "BalanceRoomModel" (219 : Nat) (10000 : Int64)) ∈ zU := zU_i (i := 866) (by decide +kernel) (by decide +kernel)
theorem zw_867 : (Jvm.Cond.methodLink "BalanceRoomModel" (221 : Nat) ({ cls := "BalanceRoomModel", name := "longPower", desc := "(JI)J" } : Jvm.MethodName)) ∈ zU := zU_i (i := 867) (by decide +kernel) (by decide +kernel)
theorem zw_868 : (Jvm.Cond.static ({ cls := "BalanceRoomModel", name := "longPower", desc := "(JI)J" } : Jvm.MethodName)) ∈ zU := zU_i (i := 868) (by decide +kernel) (by decide +kernel)
set_option maxRecDepth 100000 in
theorem zw_869 : (Jvm.Cond.code ({ cls := "BalanceRoomModel", name := "longPower", desc := "(JI)J" } : Jvm.MethodName) prog_8_method_59_code (6 : Nat) (Option.some Jvm.ClassFile.FieldType.long)) ∈ zU := zU_i (i := 869) (rfl) (by decide +kernel)
theorem zw_870 : (Jvm.Cond.methodLink "BalanceRoomModel" (225 : Nat) ({ cls := "BalanceRoomModel", name := "does", desc := "(III)Z" } : Jvm.MethodName)) ∈ zU := zU_i (i := 870) (by decide +kernel) (by decide +kernel)
theorem zw_872 : (Jvm.Cond.instanceMethod ({ cls := "BalanceRoomModel", name := "does", desc := "(III)Z" } : Jvm.MethodName)) ∈ zU := zU_i (i := 872) (by decide +kernel) (by decide +kernel)
set_option maxRecDepth 100000 in
theorem zw_873 : (Jvm.Cond.code ({ cls := "BalanceRoomModel", name := "does", desc := "(III)Z" } : Jvm.MethodName) prog_8_method_58_code (5 : Nat) (Option.some Jvm.ClassFile.FieldType.boolean)) ∈ zU := zU_i (i := 873) (rfl) (by decide +kernel)
theorem zw_874 : (Jvm.Cond.methodLink "BalanceRoomModel" (214 : Nat) ({ cls := "BalanceRoomModel", name := "isWorth", desc := "(II)Z" } : Jvm.MethodName)) ∈ zU := zU_i (i := 874) (by decide +kernel) (by decide +kernel)
theorem zw_876 : (Jvm.Cond.instanceMethod ({ cls := "BalanceRoomModel", name := "isWorth", desc := "(II)Z" } : Jvm.MethodName)) ∈ zU := zU_i (i := 876) (by decide +kernel) (by decide +kernel)
set_option maxRecDepth 100000 in
theorem zw_877 : (Jvm.Cond.code ({ cls := "BalanceRoomModel", name := "isWorth", desc := "(II)Z" } : Jvm.MethodName) prog_8_method_57_code (3 : Nat) (Option.some Jvm.ClassFile.FieldType.boolean)) ∈ zU := zU_i (i := 877) (rfl) (by decide +kernel)
theorem zw_878 : (Jvm.Cond.methodLink "BalanceRoomLaw" (118 : Nat) ({ cls := "BalanceRoomModel", name := "share", desc := "(IZZ)I" } : Jvm.MethodName)) ∈ zU := zU_i (i := 878) (by decide +kernel) (by decide +kernel)
theorem zw_879 : (Jvm.Cond.instanceMethod ({ cls := "BalanceRoomModel", name := "share", desc := "(IZZ)I" } : Jvm.MethodName)) ∈ zU := zU_i (i := 879) (by decide +kernel) (by decide +kernel)
theorem zw_880 : (Jvm.Cond.selects "BalanceRoomModel" ({ cls := "BalanceRoomModel", name := "share", desc := "(IZZ)I" } : Jvm.MethodName) ({ cls := "BalanceRoomModel", name := "share", desc := "(IZZ)I" } : Jvm.MethodName)) ∈ zU := zU_i (i := 880) (by decide +kernel) (by decide +kernel)
set_option maxRecDepth 100000 in
theorem zw_881 : (Jvm.Cond.code ({ cls := "BalanceRoomModel", name := "share", desc := "(IZZ)I" } : Jvm.MethodName) prog_8_method_62_code (10 : Nat) (Option.some Jvm.ClassFile.FieldType.int)) ∈ zU := zU_i (i := 881) (rfl) (by decide +kernel)
theorem zw_882 : (Jvm.Cond.methodLink "BalanceRoomModel" (229 : Nat) ({ cls := "BalanceRoomModel", name := "factorial", desc := "(I)I" } : Jvm.MethodName)) ∈ zU := zU_i (i := 882) (by decide +kernel) (by decide +kernel)
theorem zw_883 : (Jvm.Cond.static ({ cls := "BalanceRoomModel", name := "factorial", desc := "(I)I" } : Jvm.MethodName)) ∈ zU := zU_i (i := 883) (by decide +kernel) (by decide +kernel)
set_option maxRecDepth 100000 in
theorem zw_884 : (Jvm.Cond.code ({ cls := "BalanceRoomModel", name := "factorial", desc := "(I)I" } : Jvm.MethodName) prog_8_method_61_code (3 : Nat) (Option.some Jvm.ClassFile.FieldType.int)) ∈ zU := zU_i (i := 884) (rfl) (by decide +kernel)
theorem zw_885 : (Jvm.Cond.methodLink "BalanceRoomLaw" (122 : Nat) ({ cls := "BalanceRoomModel", name := "lost", desc := "(IZZ)I" } : Jvm.MethodName)) ∈ zU := zU_i (i := 885) (by decide +kernel) (by decide +kernel)
theorem zw_886 : (Jvm.Cond.instanceMethod ({ cls := "BalanceRoomModel", name := "lost", desc := "(IZZ)I" } : Jvm.MethodName)) ∈ zU := zU_i (i := 886) (by decide +kernel) (by decide +kernel)
theorem zw_887 : (Jvm.Cond.selects "BalanceRoomModel" ({ cls := "BalanceRoomModel", name := "lost", desc := "(IZZ)I" } : Jvm.MethodName) ({ cls := "BalanceRoomModel", name := "lost", desc := "(IZZ)I" } : Jvm.MethodName)) ∈ zU := zU_i (i := 887) (by decide +kernel) (by decide +kernel)
set_option maxRecDepth 100000 in
theorem zw_888 : (Jvm.Cond.code ({ cls := "BalanceRoomModel", name := "lost", desc := "(IZZ)I" } : Jvm.MethodName) prog_8_method_63_code (9 : Nat) (Option.some Jvm.ClassFile.FieldType.int)) ∈ zU := zU_i (i := 888) (rfl) (by decide +kernel)
theorem zw_889 : (Jvm.Cond.constantLong "BalanceRoomModel" (232 : Nat) (10 : Int64)) ∈ zU := zU_i (i := 889) (by decide +kernel) (by decide +kernel)
theorem zw_890 : (Jvm.Cond.methodLink "BalanceRoomLaw" (127 : Nat) ({ cls := "BalanceRoomModel", name := "seed", desc := "(J)J" } : Jvm.MethodName)) ∈ zU := zU_i (i := 890) (by decide +kernel) (by decide +kernel)
theorem zw_891 : (Jvm.Cond.instanceMethod ({ cls := "BalanceRoomModel", name := "seed", desc := "(J)J" } : Jvm.MethodName)) ∈ zU := zU_i (i := 891) (by decide +kernel) (by decide +kernel)
theorem zw_892 : (Jvm.Cond.selects "BalanceRoomModel" ({ cls := "BalanceRoomModel", name := "seed", desc := "(J)J" } : Jvm.MethodName) ({ cls := "BalanceRoomModel", name := "seed", desc := "(J)J" } : Jvm.MethodName)) ∈ zU := zU_i (i := 892) (by decide +kernel) (by decide +kernel)
set_option maxRecDepth 100000 in
theorem zw_893 : (Jvm.Cond.code ({ cls := "BalanceRoomModel", name := "seed", desc := "(J)J" } : Jvm.MethodName) prog_8_method_64_code (5 : Nat) (Option.some Jvm.ClassFile.FieldType.long)) ∈ zU := zU_i (i := 893) (rfl) (by decide +kernel)
theorem zw_894 : (Jvm.Cond.methodLink "BalanceRoomLaw" (131 : Nat) ({ cls := "BalanceRoomModel", name := "drawn", desc := "(I)I" } : Jvm.MethodName)) ∈ zU := zU_i (i := 894) (by decide +kernel) (by decide +kernel)
theorem zw_895 : (Jvm.Cond.instanceMethod ({ cls := "BalanceRoomModel", name := "drawn", desc := "(I)I" } : Jvm.MethodName)) ∈ zU := zU_i (i := 895) (by decide +kernel) (by decide +kernel)
theorem zw_896 : (Jvm.Cond.selects "BalanceRoomModel" ({ cls := "BalanceRoomModel", name := "drawn", desc := "(I)I" } : Jvm.MethodName) ({ cls := "BalanceRoomModel", name := "drawn", desc := "(I)I" } : Jvm.MethodName)) ∈ zU := zU_i (i := 896) (by decide +kernel) (by decide +kernel)
set_option maxRecDepth 100000 in
theorem zw_897 : (Jvm.Cond.code ({ cls := "BalanceRoomModel", name := "drawn", desc := "(I)I" } : Jvm.MethodName) prog_8_method_65_code (8 : Nat) (Option.some Jvm.ClassFile.FieldType.int)) ∈ zU := zU_i (i := 897) (rfl) (by decide +kernel)
theorem zw_898 : (Jvm.Cond.constantLong "BalanceRoomModel" (237 : Nat) (20 : Int64)) ∈ zU := zU_i (i := 898) (by decide +kernel) (by decide +kernel)
theorem zw_899 : (Jvm.Cond.constantLong "BalanceRoomModel" (239 : Nat) (6364136223846793005 : Int64)) ∈ zU := zU_i (i := 899) (by decide +kernel) (by decide +kernel)
theorem zw_900 : (Jvm.Cond.constantLong "BalanceRoomModel" (241 : Nat) (1442695040888963407 : Int64)) ∈ zU := zU_i (i := 900) (by decide +kernel) (by decide +kernel)
theorem zw_901 : (Jvm.Cond.methodLink "BalanceRoomLaw" (135 : Nat) ({ cls := "BalanceRoomModel", name := "keep", desc := "(I)I" } : Jvm.MethodName)) ∈ zU := zU_i (i := 901) (by decide +kernel) (by decide +kernel)
theorem zw_902 : (Jvm.Cond.instanceMethod ({ cls := "BalanceRoomModel", name := "keep", desc := "(I)I" } : Jvm.MethodName)) ∈ zU := zU_i (i := 902) (by decide +kernel) (by decide +kernel)
theorem zw_903 : (Jvm.Cond.selects "BalanceRoomModel" ({ cls := "BalanceRoomModel", name := "keep", desc := "(I)I" } : Jvm.MethodName) ({ cls := "BalanceRoomModel", name := "keep", desc := "(I)I" } : Jvm.MethodName)) ∈ zU := zU_i (i := 903) (by decide +kernel) (by decide +kernel)
set_option maxRecDepth 100000 in
theorem zw_904 : (Jvm.Cond.code ({ cls := "BalanceRoomModel", name := "keep", desc := "(I)I" } : Jvm.MethodName) prog_8_method_66_code (3 : Nat) (Option.some Jvm.ClassFile.FieldType.int)) ∈ zU := zU_i (i := 904) (rfl) (by decide +kernel)
theorem zw_905 : (Jvm.Cond.methodLink "BalanceRoomLaw" (139 : Nat) ({ cls := "BalanceRoomModel", name := "again", desc := "(I)I" } : Jvm.MethodName)) ∈ zU := zU_i (i := 905) (by decide +kernel) (by decide +kernel)
theorem zw_906 : (Jvm.Cond.instanceMethod ({ cls := "BalanceRoomModel", name := "again", desc := "(I)I" } : Jvm.MethodName)) ∈ zU := zU_i (i := 906) (by decide +kernel) (by decide +kernel)
theorem zw_907 : (Jvm.Cond.selects "BalanceRoomModel" ({ cls := "BalanceRoomModel", name := "again", desc := "(I)I" } : Jvm.MethodName) ({ cls := "BalanceRoomModel", name := "again", desc := "(I)I" } : Jvm.MethodName)) ∈ zU := zU_i (i := 907) (by decide +kernel) (by decide +kernel)
set_option maxRecDepth 100000 in
theorem zw_908 : (Jvm.Cond.code ({ cls := "BalanceRoomModel", name := "again", desc := "(I)I" } : Jvm.MethodName) prog_8_method_67_code (3 : Nat) (Option.some Jvm.ClassFile.FieldType.int)) ∈ zU := zU_i (i := 908) (rfl) (by decide +kernel)
theorem zw_909 : (Jvm.Cond.methodLink "BalanceRoomLaw" (143 : Nat) ({ cls := "BalanceRoomModel", name := "count", desc := "(I)I" } : Jvm.MethodName)) ∈ zU := zU_i (i := 909) (by decide +kernel) (by decide +kernel)
theorem zw_910 : (Jvm.Cond.instanceMethod ({ cls := "BalanceRoomModel", name := "count", desc := "(I)I" } : Jvm.MethodName)) ∈ zU := zU_i (i := 910) (by decide +kernel) (by decide +kernel)
theorem zw_911 : (Jvm.Cond.selects "BalanceRoomModel" ({ cls := "BalanceRoomModel", name := "count", desc := "(I)I" } : Jvm.MethodName) ({ cls := "BalanceRoomModel", name := "count", desc := "(I)I" } : Jvm.MethodName)) ∈ zU := zU_i (i := 911) (by decide +kernel) (by decide +kernel)
set_option maxRecDepth 100000 in
theorem zw_912 : (Jvm.Cond.code ({ cls := "BalanceRoomModel", name := "count", desc := "(I)I" } : Jvm.MethodName) prog_8_method_68_code (2 : Nat) (Option.some Jvm.ClassFile.FieldType.int)) ∈ zU := zU_i (i := 912) (rfl) (by decide +kernel)
theorem zw_913 : (Jvm.Cond.constantLong "BalanceRoomLaw" (107 : Nat) (4294967295 : Int64)) ∈ zU := zU_i (i := 913) (by decide +kernel) (by decide +kernel)
theorem zin_X0 : ∀ w ∈ u_ws RX0 TX0 3, w ∈ zU := by decide +kernel
theorem zin_X1 : ∀ w ∈ u_ws RX1 TX1 7, w ∈ zU := by decide +kernel
theorem zin_X2 : ∀ w ∈ u_ws RX2 TX2 3, w ∈ zU := by decide +kernel
theorem zin_X3 : ∀ w ∈ u_ws RX3 TX3 5, w ∈ zU := by decide +kernel
theorem zin_X4 : ∀ w ∈ u_ws RX4 TX4 2, w ∈ zU := by decide +kernel
theorem zin_X5 : ∀ w ∈ u_ws RX5 TX5 9, w ∈ zU := by decide +kernel
theorem zin_X6 : ∀ w ∈ u_ws RX6 TX6 24, w ∈ zU := by decide +kernel
end
section
theorem dX0_init_0 : decode cX0_init 0 = .ok (.aload_n 0, 1) := by decide +kernel
theorem dX0_init_1 : decode cX0_init 1 = .ok (.invokespecial 3, 3) := by decide +kernel
theorem dX0_init_4 : decode cX0_init 4 = .ok (.aload_n 0, 1) := by decide +kernel
theorem dX0_init_5 : decode cX0_init 5 = .ok (.bipush 14, 2) := by decide +kernel
theorem dX0_init_7 : decode cX0_init 7 = .ok (.anewarray 9, 3) := by decide +kernel
theorem dX0_init_10 : decode cX0_init 10 = .ok (.putfield 11, 3) := by decide +kernel
theorem dX0_init_13 : decode cX0_init 13 = .ok (.aload_n 0, 1) := by decide +kernel
theorem dX0_init_14 : decode cX0_init 14 = .ok (.iconst 0, 1) := by decide +kernel
theorem dX0_init_15 : decode cX0_init 15 = .ok (.putfield 17, 3) := by decide +kernel
theorem dX0_init_18 : decode cX0_init 18 = .ok (.aload_n 0, 1) := by decide +kernel
theorem dX0_init_19 : decode cX0_init 19 = .ok (.iconst 0, 1) := by decide +kernel
theorem dX0_init_20 : decode cX0_init 20 = .ok (.putfield 21, 3) := by decide +kernel
theorem dX0_init_23 : decode cX0_init 23 = .ok (.iconst 0, 1) := by decide +kernel
theorem dX0_init_24 : decode cX0_init 24 = .ok (.istore_n 1, 1) := by decide +kernel
theorem dX0_init_25 : decode cX0_init 25 = .ok (.iload_n 1, 1) := by decide +kernel
theorem dX0_init_26 : decode cX0_init 26 = .ok (.bipush 14, 2) := by decide +kernel
theorem dX0_init_28 : decode cX0_init 28 = .ok (.if_icmp .ge 22, 3) := by decide +kernel
theorem dX0_init_31 : decode cX0_init 31 = .ok (.aload_n 0, 1) := by decide +kernel
theorem dX0_init_32 : decode cX0_init 32 = .ok (.getfield 11, 3) := by decide +kernel
theorem dX0_init_35 : decode cX0_init 35 = .ok (.iload_n 1, 1) := by decide +kernel
theorem dX0_init_36 : decode cX0_init 36 = .ok (.new 9, 3) := by decide +kernel
theorem dX0_init_39 : decode cX0_init 39 = .ok (.dup, 1) := by decide +kernel
theorem dX0_init_40 : decode cX0_init 40 = .ok (.invokespecial 24, 3) := by decide +kernel
theorem dX0_init_43 : decode cX0_init 43 = .ok (.aastore, 1) := by decide +kernel
theorem dX0_init_44 : decode cX0_init 44 = .ok (.iinc 1 1, 3) := by decide +kernel
theorem dX0_init_47 : decode cX0_init 47 = .ok (.goto (-22), 3) := by decide +kernel
theorem dX0_init_50 : decode cX0_init 50 = .ok (.return_, 1) := by decide +kernel
theorem dX0_remember_0 : decode cX0_remember 0 = .ok (.aload_n 0, 1) := by decide +kernel
theorem dX0_remember_1 : decode cX0_remember 1 = .ok (.getfield 21, 3) := by decide +kernel
theorem dX0_remember_4 : decode cX0_remember 4 = .ok (.bipush 14, 2) := by decide +kernel
theorem dX0_remember_6 : decode cX0_remember 6 = .ok (.if_icmp .ne 26, 3) := by decide +kernel
theorem dX0_remember_9 : decode cX0_remember 9 = .ok (.aload_n 0, 1) := by decide +kernel
theorem dX0_remember_10 : decode cX0_remember 10 = .ok (.aload_n 0, 1) := by decide +kernel
theorem dX0_remember_11 : decode cX0_remember 11 = .ok (.getfield 17, 3) := by decide +kernel
theorem dX0_remember_14 : decode cX0_remember 14 = .ok (.iconst 1, 1) := by decide +kernel
theorem dX0_remember_15 : decode cX0_remember 15 = .ok (.iadd, 1) := by decide +kernel
theorem dX0_remember_16 : decode cX0_remember 16 = .ok (.bipush 14, 2) := by decide +kernel
theorem dX0_remember_18 : decode cX0_remember 18 = .ok (.irem, 1) := by decide +kernel
theorem dX0_remember_19 : decode cX0_remember 19 = .ok (.putfield 17, 3) := by decide +kernel
theorem dX0_remember_22 : decode cX0_remember 22 = .ok (.aload_n 0, 1) := by decide +kernel
theorem dX0_remember_23 : decode cX0_remember 23 = .ok (.dup, 1) := by decide +kernel
theorem dX0_remember_24 : decode cX0_remember 24 = .ok (.getfield 21, 3) := by decide +kernel
theorem dX0_remember_27 : decode cX0_remember 27 = .ok (.iconst 1, 1) := by decide +kernel
theorem dX0_remember_28 : decode cX0_remember 28 = .ok (.isub, 1) := by decide +kernel
theorem dX0_remember_29 : decode cX0_remember 29 = .ok (.putfield 21, 3) := by decide +kernel
theorem dX0_remember_32 : decode cX0_remember 32 = .ok (.aload_n 0, 1) := by decide +kernel
theorem dX0_remember_33 : decode cX0_remember 33 = .ok (.getfield 11, 3) := by decide +kernel
theorem dX0_remember_36 : decode cX0_remember 36 = .ok (.aload_n 0, 1) := by decide +kernel
theorem dX0_remember_37 : decode cX0_remember 37 = .ok (.getfield 17, 3) := by decide +kernel
theorem dX0_remember_40 : decode cX0_remember 40 = .ok (.aload_n 0, 1) := by decide +kernel
theorem dX0_remember_41 : decode cX0_remember 41 = .ok (.getfield 21, 3) := by decide +kernel
theorem dX0_remember_44 : decode cX0_remember 44 = .ok (.iadd, 1) := by decide +kernel
theorem dX0_remember_45 : decode cX0_remember 45 = .ok (.bipush 14, 2) := by decide +kernel
theorem dX0_remember_47 : decode cX0_remember 47 = .ok (.irem, 1) := by decide +kernel
theorem dX0_remember_48 : decode cX0_remember 48 = .ok (.aaload, 1) := by decide +kernel
theorem dX0_remember_49 : decode cX0_remember 49 = .ok (.aload_n 1, 1) := by decide +kernel
theorem dX0_remember_50 : decode cX0_remember 50 = .ok (.invokevirtual 25, 3) := by decide +kernel
theorem dX0_remember_53 : decode cX0_remember 53 = .ok (.aload_n 0, 1) := by decide +kernel
theorem dX0_remember_54 : decode cX0_remember 54 = .ok (.dup, 1) := by decide +kernel
theorem dX0_remember_55 : decode cX0_remember 55 = .ok (.getfield 21, 3) := by decide +kernel
theorem dX0_remember_58 : decode cX0_remember 58 = .ok (.iconst 1, 1) := by decide +kernel
theorem dX0_remember_59 : decode cX0_remember 59 = .ok (.iadd, 1) := by decide +kernel
theorem dX0_remember_60 : decode cX0_remember 60 = .ok (.putfield 21, 3) := by decide +kernel
theorem dX0_remember_63 : decode cX0_remember 63 = .ok (.return_, 1) := by decide +kernel
theorem dX0_takeBack_0 : decode cX0_takeBack 0 = .ok (.aload_n 0, 1) := by decide +kernel
theorem dX0_takeBack_1 : decode cX0_takeBack 1 = .ok (.getfield 21, 3) := by decide +kernel
theorem dX0_takeBack_4 : decode cX0_takeBack 4 = .ok (.ifCond .le 34, 3) := by decide +kernel
theorem dX0_takeBack_7 : decode cX0_takeBack 7 = .ok (.aload_n 0, 1) := by decide +kernel
theorem dX0_takeBack_8 : decode cX0_takeBack 8 = .ok (.dup, 1) := by decide +kernel
theorem dX0_takeBack_9 : decode cX0_takeBack 9 = .ok (.getfield 21, 3) := by decide +kernel
theorem dX0_takeBack_12 : decode cX0_takeBack 12 = .ok (.iconst 1, 1) := by decide +kernel
theorem dX0_takeBack_13 : decode cX0_takeBack 13 = .ok (.isub, 1) := by decide +kernel
theorem dX0_takeBack_14 : decode cX0_takeBack 14 = .ok (.putfield 21, 3) := by decide +kernel
theorem dX0_takeBack_17 : decode cX0_takeBack 17 = .ok (.aload_n 1, 1) := by decide +kernel
theorem dX0_takeBack_18 : decode cX0_takeBack 18 = .ok (.aload_n 0, 1) := by decide +kernel
theorem dX0_takeBack_19 : decode cX0_takeBack 19 = .ok (.getfield 11, 3) := by decide +kernel
theorem dX0_takeBack_22 : decode cX0_takeBack 22 = .ok (.aload_n 0, 1) := by decide +kernel
theorem dX0_takeBack_23 : decode cX0_takeBack 23 = .ok (.getfield 17, 3) := by decide +kernel
theorem dX0_takeBack_26 : decode cX0_takeBack 26 = .ok (.aload_n 0, 1) := by decide +kernel
theorem dX0_takeBack_27 : decode cX0_takeBack 27 = .ok (.getfield 21, 3) := by decide +kernel
theorem dX0_takeBack_30 : decode cX0_takeBack 30 = .ok (.iadd, 1) := by decide +kernel
theorem dX0_takeBack_31 : decode cX0_takeBack 31 = .ok (.bipush 14, 2) := by decide +kernel
theorem dX0_takeBack_33 : decode cX0_takeBack 33 = .ok (.irem, 1) := by decide +kernel
theorem dX0_takeBack_34 : decode cX0_takeBack 34 = .ok (.aaload, 1) := by decide +kernel
theorem dX0_takeBack_35 : decode cX0_takeBack 35 = .ok (.invokevirtual 25, 3) := by decide +kernel
theorem dX0_takeBack_38 : decode cX0_takeBack 38 = .ok (.return_, 1) := by decide +kernel
theorem dX0_forgetAll_0 : decode cX0_forgetAll 0 = .ok (.aload_n 0, 1) := by decide +kernel
theorem dX0_forgetAll_1 : decode cX0_forgetAll 1 = .ok (.iconst 0, 1) := by decide +kernel
theorem dX0_forgetAll_2 : decode cX0_forgetAll 2 = .ok (.putfield 21, 3) := by decide +kernel
theorem dX0_forgetAll_5 : decode cX0_forgetAll 5 = .ok (.return_, 1) := by decide +kernel
theorem dX1_init_0 : decode cX1_init 0 = .ok (.aload_n 0, 1) := by decide +kernel
theorem dX1_init_1 : decode cX1_init 1 = .ok (.invokespecial 3, 3) := by decide +kernel
theorem dX1_init_4 : decode cX1_init 4 = .ok (.aload_n 0, 1) := by decide +kernel
theorem dX1_init_5 : decode cX1_init 5 = .ok (.bipush 6, 2) := by decide +kernel
theorem dX1_init_7 : decode cX1_init 7 = .ok (.bipush 6, 2) := by decide +kernel
theorem dX1_init_9 : decode cX1_init 9 = .ok (.multianewarray 9 2, 4) := by decide +kernel
theorem dX1_init_13 : decode cX1_init 13 = .ok (.putfield 11, 3) := by decide +kernel
theorem dX1_init_16 : decode cX1_init 16 = .ok (.aload_n 0, 1) := by decide +kernel
theorem dX1_init_17 : decode cX1_init 17 = .ok (.bipush 6, 2) := by decide +kernel
theorem dX1_init_19 : decode cX1_init 19 = .ok (.bipush 6, 2) := by decide +kernel
theorem dX1_init_21 : decode cX1_init 21 = .ok (.multianewarray 9 2, 4) := by decide +kernel
theorem dX1_init_25 : decode cX1_init 25 = .ok (.putfield 16, 3) := by decide +kernel
theorem dX1_init_28 : decode cX1_init 28 = .ok (.aload_n 0, 1) := by decide +kernel
theorem dX1_init_29 : decode cX1_init 29 = .ok (.bipush 6, 2) := by decide +kernel
theorem dX1_init_31 : decode cX1_init 31 = .ok (.newarray .long, 2) := by decide +kernel
theorem dX1_init_33 : decode cX1_init 33 = .ok (.putfield 19, 3) := by decide +kernel
theorem dX1_init_36 : decode cX1_init 36 = .ok (.aload_n 0, 1) := by decide +kernel
theorem dX1_init_37 : decode cX1_init 37 = .ok (.iconst 0, 1) := by decide +kernel
theorem dX1_init_38 : decode cX1_init 38 = .ok (.putfield 23, 3) := by decide +kernel
theorem dX1_init_41 : decode cX1_init 41 = .ok (.aload_n 0, 1) := by decide +kernel
theorem dX1_init_42 : decode cX1_init 42 = .ok (.iconst 1, 1) := by decide +kernel
theorem dX1_init_43 : decode cX1_init 43 = .ok (.putfield 27, 3) := by decide +kernel
theorem dX1_init_46 : decode cX1_init 46 = .ok (.aload_n 0, 1) := by decide +kernel
theorem dX1_init_47 : decode cX1_init 47 = .ok (.iconst 1, 1) := by decide +kernel
theorem dX1_init_48 : decode cX1_init 48 = .ok (.putfield 31, 3) := by decide +kernel
theorem dX1_init_51 : decode cX1_init 51 = .ok (.aload_n 0, 1) := by decide +kernel
theorem dX1_init_52 : decode cX1_init 52 = .ok (.lconst 1, 1) := by decide +kernel
theorem dX1_init_53 : decode cX1_init 53 = .ok (.putfield 34, 3) := by decide +kernel
theorem dX1_init_56 : decode cX1_init 56 = .ok (.return_, 1) := by decide +kernel
theorem dX1_solves_0 : decode cX1_solves 0 = .ok (.aload_n 0, 1) := by decide +kernel
theorem dX1_solves_1 : decode cX1_solves 1 = .ok (.aload_n 1, 1) := by decide +kernel
theorem dX1_solves_2 : decode cX1_solves 2 = .ok (.iload_n 2, 1) := by decide +kernel
theorem dX1_solves_3 : decode cX1_solves 3 = .ok (.invokevirtual 38, 3) := by decide +kernel
theorem dX1_solves_6 : decode cX1_solves 6 = .ok (.aload_n 0, 1) := by decide +kernel
theorem dX1_solves_7 : decode cX1_solves 7 = .ok (.iconst 1, 1) := by decide +kernel
theorem dX1_solves_8 : decode cX1_solves 8 = .ok (.invokevirtual 42, 3) := by decide +kernel
theorem dX1_solves_11 : decode cX1_solves 11 = .ok (.ireturn, 1) := by decide +kernel
theorem dX1_solvesWith_0 : decode cX1_solvesWith 0 = .ok (.aload_n 0, 1) := by decide +kernel
theorem dX1_solvesWith_1 : decode cX1_solvesWith 1 = .ok (.aload_n 1, 1) := by decide +kernel
theorem dX1_solvesWith_2 : decode cX1_solvesWith 2 = .ok (.iload_n 2, 1) := by decide +kernel
theorem dX1_solvesWith_3 : decode cX1_solvesWith 3 = .ok (.iconst 1, 1) := by decide +kernel
theorem dX1_solvesWith_4 : decode cX1_solvesWith 4 = .ok (.invokevirtual 46, 3) := by decide +kernel
theorem dX1_solvesWith_7 : decode cX1_solvesWith 7 = .ok (.aload_n 0, 1) := by decide +kernel
theorem dX1_solvesWith_8 : decode cX1_solvesWith 8 = .ok (.iconst 1, 1) := by decide +kernel
theorem dX1_solvesWith_9 : decode cX1_solvesWith 9 = .ok (.invokevirtual 42, 3) := by decide +kernel
theorem dX1_solvesWith_12 : decode cX1_solvesWith 12 = .ok (.istore_n 3, 1) := by decide +kernel
theorem dX1_solvesWith_13 : decode cX1_solvesWith 13 = .ok (.aload_n 0, 1) := by decide +kernel
theorem dX1_solvesWith_14 : decode cX1_solvesWith 14 = .ok (.aload_n 1, 1) := by decide +kernel
theorem dX1_solvesWith_15 : decode cX1_solvesWith 15 = .ok (.iload_n 2, 1) := by decide +kernel
theorem dX1_solvesWith_16 : decode cX1_solvesWith 16 = .ok (.iconst (-1), 1) := by decide +kernel
theorem dX1_solvesWith_17 : decode cX1_solvesWith 17 = .ok (.invokevirtual 46, 3) := by decide +kernel
theorem dX1_solvesWith_20 : decode cX1_solvesWith 20 = .ok (.iload_n 3, 1) := by decide +kernel
theorem dX1_solvesWith_21 : decode cX1_solvesWith 21 = .ok (.ireturn, 1) := by decide +kernel
theorem dX1_solvesWithout_0 : decode cX1_solvesWithout 0 = .ok (.aload_n 0, 1) := by decide +kernel
theorem dX1_solvesWithout_1 : decode cX1_solvesWithout 1 = .ok (.aload_n 1, 1) := by decide +kernel
theorem dX1_solvesWithout_2 : decode cX1_solvesWithout 2 = .ok (.iload_n 2, 1) := by decide +kernel
theorem dX1_solvesWithout_3 : decode cX1_solvesWithout 3 = .ok (.iconst (-1), 1) := by decide +kernel
theorem dX1_solvesWithout_4 : decode cX1_solvesWithout 4 = .ok (.invokevirtual 46, 3) := by decide +kernel
theorem dX1_solvesWithout_7 : decode cX1_solvesWithout 7 = .ok (.aload_n 0, 1) := by decide +kernel
theorem dX1_solvesWithout_8 : decode cX1_solvesWithout 8 = .ok (.iconst 0, 1) := by decide +kernel
theorem dX1_solvesWithout_9 : decode cX1_solvesWithout 9 = .ok (.invokevirtual 42, 3) := by decide +kernel
theorem dX1_solvesWithout_12 : decode cX1_solvesWithout 12 = .ok (.istore_n 3, 1) := by decide +kernel
theorem dX1_solvesWithout_13 : decode cX1_solvesWithout 13 = .ok (.aload_n 0, 1) := by decide +kernel
theorem dX1_solvesWithout_14 : decode cX1_solvesWithout 14 = .ok (.aload_n 1, 1) := by decide +kernel
theorem dX1_solvesWithout_15 : decode cX1_solvesWithout 15 = .ok (.iload_n 2, 1) := by decide +kernel
theorem dX1_solvesWithout_16 : decode cX1_solvesWithout 16 = .ok (.iconst 1, 1) := by decide +kernel
theorem dX1_solvesWithout_17 : decode cX1_solvesWithout 17 = .ok (.invokevirtual 46, 3) := by decide +kernel
theorem dX1_solvesWithout_20 : decode cX1_solvesWithout 20 = .ok (.iload_n 3, 1) := by decide +kernel
theorem dX1_solvesWithout_21 : decode cX1_solvesWithout 21 = .ok (.ireturn, 1) := by decide +kernel
theorem dX1_gather_0 : decode cX1_gather 0 = .ok (.aload_n 0, 1) := by decide +kernel
theorem dX1_gather_1 : decode cX1_gather 1 = .ok (.iload_n 2, 1) := by decide +kernel
theorem dX1_gather_2 : decode cX1_gather 2 = .ok (.putfield 23, 3) := by decide +kernel
theorem dX1_gather_5 : decode cX1_gather 5 = .ok (.aload_n 0, 1) := by decide +kernel
theorem dX1_gather_6 : decode cX1_gather 6 = .ok (.aload_n 1, 1) := by decide +kernel
theorem dX1_gather_7 : decode cX1_gather 7 = .ok (.getfield 50, 3) := by decide +kernel
theorem dX1_gather_10 : decode cX1_gather 10 = .ok (.putfield 27, 3) := by decide +kernel
theorem dX1_gather_13 : decode cX1_gather 13 = .ok (.aload_n 0, 1) := by decide +kernel
theorem dX1_gather_14 : decode cX1_gather 14 = .ok (.aload_n 1, 1) := by decide +kernel
theorem dX1_gather_15 : decode cX1_gather 15 = .ok (.iload_n 2, 1) := by decide +kernel
theorem dX1_gather_16 : decode cX1_gather 16 = .ok (.invokevirtual 55, 3) := by decide +kernel
theorem dX1_gather_19 : decode cX1_gather 19 = .ok (.putfield 31, 3) := by decide +kernel
theorem dX1_gather_22 : decode cX1_gather 22 = .ok (.iconst 0, 1) := by decide +kernel
theorem dX1_gather_23 : decode cX1_gather 23 = .ok (.istore_n 3, 1) := by decide +kernel
theorem dX1_gather_24 : decode cX1_gather 24 = .ok (.iload_n 3, 1) := by decide +kernel
theorem dX1_gather_25 : decode cX1_gather 25 = .ok (.aload_n 0, 1) := by decide +kernel
theorem dX1_gather_26 : decode cX1_gather 26 = .ok (.getfield 31, 3) := by decide +kernel
theorem dX1_gather_29 : decode cX1_gather 29 = .ok (.if_icmp .gt 37, 3) := by decide +kernel
theorem dX1_gather_32 : decode cX1_gather 32 = .ok (.iconst 0, 1) := by decide +kernel
theorem dX1_gather_33 : decode cX1_gather 33 = .ok (.istore 4, 2) := by decide +kernel
theorem dX1_gather_35 : decode cX1_gather 35 = .ok (.iload 4, 2) := by decide +kernel
theorem dX1_gather_37 : decode cX1_gather 37 = .ok (.aload_n 0, 1) := by decide +kernel
theorem dX1_gather_38 : decode cX1_gather 38 = .ok (.getfield 31, 3) := by decide +kernel
theorem dX1_gather_41 : decode cX1_gather 41 = .ok (.if_icmp .gt 19, 3) := by decide +kernel
theorem dX1_gather_44 : decode cX1_gather 44 = .ok (.aload_n 0, 1) := by decide +kernel
theorem dX1_gather_45 : decode cX1_gather 45 = .ok (.getfield 11, 3) := by decide +kernel
theorem dX1_gather_48 : decode cX1_gather 48 = .ok (.iload_n 3, 1) := by decide +kernel
theorem dX1_gather_49 : decode cX1_gather 49 = .ok (.aaload, 1) := by decide +kernel
theorem dX1_gather_50 : decode cX1_gather 50 = .ok (.iload 4, 2) := by decide +kernel
theorem dX1_gather_52 : decode cX1_gather 52 = .ok (.lconst 0, 1) := by decide +kernel
theorem dX1_gather_53 : decode cX1_gather 53 = .ok (.lastore, 1) := by decide +kernel
theorem dX1_gather_54 : decode cX1_gather 54 = .ok (.iinc 4 1, 3) := by decide +kernel
theorem dX1_gather_57 : decode cX1_gather 57 = .ok (.goto (-22), 3) := by decide +kernel
theorem dX1_gather_60 : decode cX1_gather 60 = .ok (.iinc 3 1, 3) := by decide +kernel
theorem dX1_gather_63 : decode cX1_gather 63 = .ok (.goto (-39), 3) := by decide +kernel
theorem dX1_gather_66 : decode cX1_gather 66 = .ok (.iconst 0, 1) := by decide +kernel
theorem dX1_gather_67 : decode cX1_gather 67 = .ok (.istore_n 3, 1) := by decide +kernel
theorem dX1_gather_68 : decode cX1_gather 68 = .ok (.iload_n 3, 1) := by decide +kernel
theorem dX1_gather_69 : decode cX1_gather 69 = .ok (.aload_n 1, 1) := by decide +kernel
theorem dX1_gather_70 : decode cX1_gather 70 = .ok (.getfield 59, 3) := by decide +kernel
theorem dX1_gather_73 : decode cX1_gather 73 = .ok (.if_icmp .ge 16, 3) := by decide +kernel
theorem dX1_gather_76 : decode cX1_gather 76 = .ok (.aload_n 0, 1) := by decide +kernel
theorem dX1_gather_77 : decode cX1_gather 77 = .ok (.aload_n 1, 1) := by decide +kernel
theorem dX1_gather_78 : decode cX1_gather 78 = .ok (.iload_n 3, 1) := by decide +kernel
theorem dX1_gather_79 : decode cX1_gather 79 = .ok (.iconst 1, 1) := by decide +kernel
theorem dX1_gather_80 : decode cX1_gather 80 = .ok (.invokevirtual 46, 3) := by decide +kernel
theorem dX1_gather_83 : decode cX1_gather 83 = .ok (.iinc 3 1, 3) := by decide +kernel
theorem dX1_gather_86 : decode cX1_gather 86 = .ok (.goto (-18), 3) := by decide +kernel
theorem dX1_gather_89 : decode cX1_gather 89 = .ok (.return_, 1) := by decide +kernel
theorem dX1_put_0 : decode cX1_put 0 = .ok (.aload_n 1, 1) := by decide +kernel
theorem dX1_put_1 : decode cX1_put 1 = .ok (.iload_n 2, 1) := by decide +kernel
theorem dX1_put_2 : decode cX1_put 2 = .ok (.aload_n 0, 1) := by decide +kernel
theorem dX1_put_3 : decode cX1_put 3 = .ok (.getfield 23, 3) := by decide +kernel
theorem dX1_put_6 : decode cX1_put 6 = .ok (.aload_n 0, 1) := by decide +kernel
theorem dX1_put_7 : decode cX1_put 7 = .ok (.getfield 19, 3) := by decide +kernel
theorem dX1_put_10 : decode cX1_put 10 = .ok (.invokevirtual 62, 3) := by decide +kernel
theorem dX1_put_13 : decode cX1_put 13 = .ok (.iconst 0, 1) := by decide +kernel
theorem dX1_put_14 : decode cX1_put 14 = .ok (.istore 4, 2) := by decide +kernel
theorem dX1_put_16 : decode cX1_put 16 = .ok (.iload 4, 2) := by decide +kernel
theorem dX1_put_18 : decode cX1_put 18 = .ok (.aload_n 0, 1) := by decide +kernel
theorem dX1_put_19 : decode cX1_put 19 = .ok (.getfield 31, 3) := by decide +kernel
theorem dX1_put_22 : decode cX1_put 22 = .ok (.if_icmp .gt 70, 3) := by decide +kernel
theorem dX1_put_25 : decode cX1_put 25 = .ok (.iload_n 3, 1) := by decide +kernel
theorem dX1_put_26 : decode cX1_put 26 = .ok (.i2l, 1) := by decide +kernel
theorem dX1_put_27 : decode cX1_put 27 = .ok (.aload_n 0, 1) := by decide +kernel
theorem dX1_put_28 : decode cX1_put 28 = .ok (.getfield 19, 3) := by decide +kernel
theorem dX1_put_31 : decode cX1_put 31 = .ok (.iload 4, 2) := by decide +kernel
theorem dX1_put_33 : decode cX1_put 33 = .ok (.laload, 1) := by decide +kernel
theorem dX1_put_34 : decode cX1_put 34 = .ok (.lmul, 1) := by decide +kernel
theorem dX1_put_35 : decode cX1_put 35 = .ok (.lstore 5, 2) := by decide +kernel
theorem dX1_put_37 : decode cX1_put 37 = .ok (.iload 4, 2) := by decide +kernel
theorem dX1_put_39 : decode cX1_put 39 = .ok (.istore 7, 2) := by decide +kernel
theorem dX1_put_41 : decode cX1_put 41 = .ok (.lload 5, 2) := by decide +kernel
theorem dX1_put_43 : decode cX1_put 43 = .ok (.lconst 0, 1) := by decide +kernel
theorem dX1_put_44 : decode cX1_put 44 = .ok (.lcmp, 1) := by decide +kernel
theorem dX1_put_45 : decode cX1_put 45 = .ok (.ifCond .eq 41, 3) := by decide +kernel
theorem dX1_put_48 : decode cX1_put 48 = .ok (.iload 7, 2) := by decide +kernel
theorem dX1_put_50 : decode cX1_put 50 = .ok (.aload_n 0, 1) := by decide +kernel
theorem dX1_put_51 : decode cX1_put 51 = .ok (.getfield 31, 3) := by decide +kernel
theorem dX1_put_54 : decode cX1_put 54 = .ok (.if_icmp .gt 32, 3) := by decide +kernel
theorem dX1_put_57 : decode cX1_put 57 = .ok (.aload_n 0, 1) := by decide +kernel
theorem dX1_put_58 : decode cX1_put 58 = .ok (.getfield 11, 3) := by decide +kernel
theorem dX1_put_61 : decode cX1_put 61 = .ok (.iload 4, 2) := by decide +kernel
theorem dX1_put_63 : decode cX1_put 63 = .ok (.aaload, 1) := by decide +kernel
theorem dX1_put_64 : decode cX1_put 64 = .ok (.iload 7, 2) := by decide +kernel
theorem dX1_put_66 : decode cX1_put 66 = .ok (.dup2, 1) := by decide +kernel
theorem dX1_put_67 : decode cX1_put 67 = .ok (.laload, 1) := by decide +kernel
theorem dX1_put_68 : decode cX1_put 68 = .ok (.lload 5, 2) := by decide +kernel
theorem dX1_put_70 : decode cX1_put 70 = .ok (.aload_n 0, 1) := by decide +kernel
theorem dX1_put_71 : decode cX1_put 71 = .ok (.getfield 19, 3) := by decide +kernel
theorem dX1_put_74 : decode cX1_put 74 = .ok (.iload 7, 2) := by decide +kernel
theorem dX1_put_76 : decode cX1_put 76 = .ok (.laload, 1) := by decide +kernel
theorem dX1_put_77 : decode cX1_put 77 = .ok (.lmul, 1) := by decide +kernel
theorem dX1_put_78 : decode cX1_put 78 = .ok (.ladd, 1) := by decide +kernel
theorem dX1_put_79 : decode cX1_put 79 = .ok (.lastore, 1) := by decide +kernel
theorem dX1_put_80 : decode cX1_put 80 = .ok (.iinc 7 1, 3) := by decide +kernel
theorem dX1_put_83 : decode cX1_put 83 = .ok (.goto (-42), 3) := by decide +kernel
theorem dX1_put_86 : decode cX1_put 86 = .ok (.iinc 4 1, 3) := by decide +kernel
theorem dX1_put_89 : decode cX1_put 89 = .ok (.goto (-73), 3) := by decide +kernel
theorem dX1_put_92 : decode cX1_put 92 = .ok (.return_, 1) := by decide +kernel
theorem dX1_sweepAll_0 : decode cX1_sweepAll 0 = .ok (.iconst 0, 1) := by decide +kernel
theorem dX1_sweepAll_1 : decode cX1_sweepAll 1 = .ok (.istore_n 2, 1) := by decide +kernel
theorem dX1_sweepAll_2 : decode cX1_sweepAll 2 = .ok (.iload_n 2, 1) := by decide +kernel
theorem dX1_sweepAll_3 : decode cX1_sweepAll 3 = .ok (.aload_n 0, 1) := by decide +kernel
theorem dX1_sweepAll_4 : decode cX1_sweepAll 4 = .ok (.getfield 31, 3) := by decide +kernel
theorem dX1_sweepAll_7 : decode cX1_sweepAll 7 = .ok (.if_icmp .gt 34, 3) := by decide +kernel
theorem dX1_sweepAll_10 : decode cX1_sweepAll 10 = .ok (.aload_n 0, 1) := by decide +kernel
theorem dX1_sweepAll_11 : decode cX1_sweepAll 11 = .ok (.getfield 11, 3) := by decide +kernel
theorem dX1_sweepAll_14 : decode cX1_sweepAll 14 = .ok (.iload_n 2, 1) := by decide +kernel
theorem dX1_sweepAll_15 : decode cX1_sweepAll 15 = .ok (.aaload, 1) := by decide +kernel
theorem dX1_sweepAll_16 : decode cX1_sweepAll 16 = .ok (.iload_n 2, 1) := by decide +kernel
theorem dX1_sweepAll_17 : decode cX1_sweepAll 17 = .ok (.aload_n 0, 1) := by decide +kernel
theorem dX1_sweepAll_18 : decode cX1_sweepAll 18 = .ok (.getfield 16, 3) := by decide +kernel
theorem dX1_sweepAll_21 : decode cX1_sweepAll 21 = .ok (.iload_n 2, 1) := by decide +kernel
theorem dX1_sweepAll_22 : decode cX1_sweepAll 22 = .ok (.aaload, 1) := by decide +kernel
theorem dX1_sweepAll_23 : decode cX1_sweepAll 23 = .ok (.iload_n 2, 1) := by decide +kernel
theorem dX1_sweepAll_24 : decode cX1_sweepAll 24 = .ok (.aload_n 0, 1) := by decide +kernel
theorem dX1_sweepAll_25 : decode cX1_sweepAll 25 = .ok (.getfield 31, 3) := by decide +kernel
theorem dX1_sweepAll_28 : decode cX1_sweepAll 28 = .ok (.iconst 1, 1) := by decide +kernel
theorem dX1_sweepAll_29 : decode cX1_sweepAll 29 = .ok (.iadd, 1) := by decide +kernel
theorem dX1_sweepAll_30 : decode cX1_sweepAll 30 = .ok (.iload_n 2, 1) := by decide +kernel
theorem dX1_sweepAll_31 : decode cX1_sweepAll 31 = .ok (.isub, 1) := by decide +kernel
theorem dX1_sweepAll_32 : decode cX1_sweepAll 32 = .ok (.invokestatic 66, 3) := by decide +kernel
theorem dX1_sweepAll_35 : decode cX1_sweepAll 35 = .ok (.iinc 2 1, 3) := by decide +kernel
theorem dX1_sweepAll_38 : decode cX1_sweepAll 38 = .ok (.goto (-36), 3) := by decide +kernel
theorem dX1_sweepAll_41 : decode cX1_sweepAll 41 = .ok (.aload_n 0, 1) := by decide +kernel
theorem dX1_sweepAll_42 : decode cX1_sweepAll 42 = .ok (.lconst 1, 1) := by decide +kernel
theorem dX1_sweepAll_43 : decode cX1_sweepAll 43 = .ok (.putfield 34, 3) := by decide +kernel
theorem dX1_sweepAll_46 : decode cX1_sweepAll 46 = .ok (.iconst 0, 1) := by decide +kernel
theorem dX1_sweepAll_47 : decode cX1_sweepAll 47 = .ok (.istore_n 2, 1) := by decide +kernel
theorem dX1_sweepAll_48 : decode cX1_sweepAll 48 = .ok (.iload_n 2, 1) := by decide +kernel
theorem dX1_sweepAll_49 : decode cX1_sweepAll 49 = .ok (.aload_n 0, 1) := by decide +kernel
theorem dX1_sweepAll_50 : decode cX1_sweepAll 50 = .ok (.getfield 31, 3) := by decide +kernel
theorem dX1_sweepAll_53 : decode cX1_sweepAll 53 = .ok (.if_icmp .ge 40, 3) := by decide +kernel
theorem dX1_sweepAll_56 : decode cX1_sweepAll 56 = .ok (.aload_n 0, 1) := by decide +kernel
theorem dX1_sweepAll_57 : decode cX1_sweepAll 57 = .ok (.getfield 16, 3) := by decide +kernel
theorem dX1_sweepAll_60 : decode cX1_sweepAll 60 = .ok (.iload_n 2, 1) := by decide +kernel
theorem dX1_sweepAll_61 : decode cX1_sweepAll 61 = .ok (.aaload, 1) := by decide +kernel
theorem dX1_sweepAll_62 : decode cX1_sweepAll 62 = .ok (.iload_n 2, 1) := by decide +kernel
theorem dX1_sweepAll_63 : decode cX1_sweepAll 63 = .ok (.laload, 1) := by decide +kernel
theorem dX1_sweepAll_64 : decode cX1_sweepAll 64 = .ok (.lconst 0, 1) := by decide +kernel
theorem dX1_sweepAll_65 : decode cX1_sweepAll 65 = .ok (.lcmp, 1) := by decide +kernel
theorem dX1_sweepAll_66 : decode cX1_sweepAll 66 = .ok (.ifCond .gt 5, 3) := by decide +kernel
theorem dX1_sweepAll_69 : decode cX1_sweepAll 69 = .ok (.iconst 0, 1) := by decide +kernel
theorem dX1_sweepAll_70 : decode cX1_sweepAll 70 = .ok (.ireturn, 1) := by decide +kernel
theorem dX1_sweepAll_71 : decode cX1_sweepAll 71 = .ok (.aload_n 0, 1) := by decide +kernel
theorem dX1_sweepAll_72 : decode cX1_sweepAll 72 = .ok (.iload_n 2, 1) := by decide +kernel
theorem dX1_sweepAll_73 : decode cX1_sweepAll 73 = .ok (.iload_n 1, 1) := by decide +kernel
theorem dX1_sweepAll_74 : decode cX1_sweepAll 74 = .ok (.ifCond .eq 7, 3) := by decide +kernel
theorem dX1_sweepAll_77 : decode cX1_sweepAll 77 = .ok (.iconst 0, 1) := by decide +kernel
theorem dX1_sweepAll_78 : decode cX1_sweepAll 78 = .ok (.goto 6, 3) := by decide +kernel
theorem dX1_sweepAll_81 : decode cX1_sweepAll 81 = .ok (.iload_n 2, 1) := by decide +kernel
theorem dX1_sweepAll_82 : decode cX1_sweepAll 82 = .ok (.iconst 1, 1) := by decide +kernel
theorem dX1_sweepAll_83 : decode cX1_sweepAll 83 = .ok (.iadd, 1) := by decide +kernel
theorem dX1_sweepAll_84 : decode cX1_sweepAll 84 = .ok (.invokevirtual 72, 3) := by decide +kernel
theorem dX1_sweepAll_87 : decode cX1_sweepAll 87 = .ok (.iinc 2 1, 3) := by decide +kernel
theorem dX1_sweepAll_90 : decode cX1_sweepAll 90 = .ok (.goto (-42), 3) := by decide +kernel
theorem dX1_sweepAll_93 : decode cX1_sweepAll 93 = .ok (.iconst 1, 1) := by decide +kernel
theorem dX1_sweepAll_94 : decode cX1_sweepAll 94 = .ok (.ireturn, 1) := by decide +kernel
theorem dX1_sweep_0 : decode cX1_sweep 0 = .ok (.aload_n 0, 1) := by decide +kernel
theorem dX1_sweep_1 : decode cX1_sweep 1 = .ok (.getfield 16, 3) := by decide +kernel
theorem dX1_sweep_4 : decode cX1_sweep 4 = .ok (.iload_n 1, 1) := by decide +kernel
theorem dX1_sweep_5 : decode cX1_sweep 5 = .ok (.aaload, 1) := by decide +kernel
theorem dX1_sweep_6 : decode cX1_sweep 6 = .ok (.iload_n 1, 1) := by decide +kernel
theorem dX1_sweep_7 : decode cX1_sweep 7 = .ok (.laload, 1) := by decide +kernel
theorem dX1_sweep_8 : decode cX1_sweep 8 = .ok (.lstore_n 3, 1) := by decide +kernel
theorem dX1_sweep_9 : decode cX1_sweep 9 = .ok (.iload_n 2, 1) := by decide +kernel
theorem dX1_sweep_10 : decode cX1_sweep 10 = .ok (.istore 5, 2) := by decide +kernel
theorem dX1_sweep_12 : decode cX1_sweep 12 = .ok (.iload 5, 2) := by decide +kernel
theorem dX1_sweep_14 : decode cX1_sweep 14 = .ok (.aload_n 0, 1) := by decide +kernel
theorem dX1_sweep_15 : decode cX1_sweep 15 = .ok (.getfield 31, 3) := by decide +kernel
theorem dX1_sweep_18 : decode cX1_sweep 18 = .ok (.if_icmp .gt 23, 3) := by decide +kernel
theorem dX1_sweep_21 : decode cX1_sweep 21 = .ok (.iload 5, 2) := by decide +kernel
theorem dX1_sweep_23 : decode cX1_sweep 23 = .ok (.iload_n 1, 1) := by decide +kernel
theorem dX1_sweep_24 : decode cX1_sweep 24 = .ok (.if_icmp .eq 11, 3) := by decide +kernel
theorem dX1_sweep_27 : decode cX1_sweep 27 = .ok (.aload_n 0, 1) := by decide +kernel
theorem dX1_sweep_28 : decode cX1_sweep 28 = .ok (.iload 5, 2) := by decide +kernel
theorem dX1_sweep_30 : decode cX1_sweep 30 = .ok (.iload_n 1, 1) := by decide +kernel
theorem dX1_sweep_31 : decode cX1_sweep 31 = .ok (.lload_n 3, 1) := by decide +kernel
theorem dX1_sweep_32 : decode cX1_sweep 32 = .ok (.invokevirtual 76, 3) := by decide +kernel
theorem dX1_sweep_35 : decode cX1_sweep 35 = .ok (.iinc 5 1, 3) := by decide +kernel
theorem dX1_sweep_38 : decode cX1_sweep 38 = .ok (.goto (-26), 3) := by decide +kernel
theorem dX1_sweep_41 : decode cX1_sweep 41 = .ok (.aload_n 0, 1) := by decide +kernel
theorem dX1_sweep_42 : decode cX1_sweep 42 = .ok (.getfield 16, 3) := by decide +kernel
theorem dX1_sweep_45 : decode cX1_sweep 45 = .ok (.iload_n 1, 1) := by decide +kernel
theorem dX1_sweep_46 : decode cX1_sweep 46 = .ok (.aaload, 1) := by decide +kernel
theorem dX1_sweep_47 : decode cX1_sweep 47 = .ok (.iload_n 1, 1) := by decide +kernel
theorem dX1_sweep_48 : decode cX1_sweep 48 = .ok (.aload_n 0, 1) := by decide +kernel
theorem dX1_sweep_49 : decode cX1_sweep 49 = .ok (.getfield 34, 3) := by decide +kernel
theorem dX1_sweep_52 : decode cX1_sweep 52 = .ok (.lneg, 1) := by decide +kernel
theorem dX1_sweep_53 : decode cX1_sweep 53 = .ok (.lastore, 1) := by decide +kernel
theorem dX1_sweep_54 : decode cX1_sweep 54 = .ok (.aload_n 0, 1) := by decide +kernel
theorem dX1_sweep_55 : decode cX1_sweep 55 = .ok (.lload_n 3, 1) := by decide +kernel
theorem dX1_sweep_56 : decode cX1_sweep 56 = .ok (.putfield 34, 3) := by decide +kernel
theorem dX1_sweep_59 : decode cX1_sweep 59 = .ok (.return_, 1) := by decide +kernel
theorem dX1_sweepRow_0 : decode cX1_sweepRow 0 = .ok (.iload_n 1, 1) := by decide +kernel
theorem dX1_sweepRow_1 : decode cX1_sweepRow 1 = .ok (.iload_n 2, 1) := by decide +kernel
theorem dX1_sweepRow_2 : decode cX1_sweepRow 2 = .ok (.if_icmp .ge 14, 3) := by decide +kernel
theorem dX1_sweepRow_5 : decode cX1_sweepRow 5 = .ok (.aload_n 0, 1) := by decide +kernel
theorem dX1_sweepRow_6 : decode cX1_sweepRow 6 = .ok (.getfield 16, 3) := by decide +kernel
theorem dX1_sweepRow_9 : decode cX1_sweepRow 9 = .ok (.iload_n 1, 1) := by decide +kernel
theorem dX1_sweepRow_10 : decode cX1_sweepRow 10 = .ok (.aaload, 1) := by decide +kernel
theorem dX1_sweepRow_11 : decode cX1_sweepRow 11 = .ok (.iload_n 2, 1) := by decide +kernel
theorem dX1_sweepRow_12 : decode cX1_sweepRow 12 = .ok (.laload, 1) := by decide +kernel
theorem dX1_sweepRow_13 : decode cX1_sweepRow 13 = .ok (.goto 11, 3) := by decide +kernel
theorem dX1_sweepRow_16 : decode cX1_sweepRow 16 = .ok (.aload_n 0, 1) := by decide +kernel
theorem dX1_sweepRow_17 : decode cX1_sweepRow 17 = .ok (.getfield 16, 3) := by decide +kernel
theorem dX1_sweepRow_20 : decode cX1_sweepRow 20 = .ok (.iload_n 2, 1) := by decide +kernel
theorem dX1_sweepRow_21 : decode cX1_sweepRow 21 = .ok (.aaload, 1) := by decide +kernel
theorem dX1_sweepRow_22 : decode cX1_sweepRow 22 = .ok (.iload_n 1, 1) := by decide +kernel
theorem dX1_sweepRow_23 : decode cX1_sweepRow 23 = .ok (.laload, 1) := by decide +kernel
theorem dX1_sweepRow_24 : decode cX1_sweepRow 24 = .ok (.lstore 5, 2) := by decide +kernel
theorem dX1_sweepRow_26 : decode cX1_sweepRow 26 = .ok (.iload_n 1, 1) := by decide +kernel
theorem dX1_sweepRow_27 : decode cX1_sweepRow 27 = .ok (.istore 7, 2) := by decide +kernel
theorem dX1_sweepRow_29 : decode cX1_sweepRow 29 = .ok (.aload_n 0, 1) := by decide +kernel
theorem dX1_sweepRow_30 : decode cX1_sweepRow 30 = .ok (.getfield 34, 3) := by decide +kernel
theorem dX1_sweepRow_33 : decode cX1_sweepRow 33 = .ok (.lconst 0, 1) := by decide +kernel
theorem dX1_sweepRow_34 : decode cX1_sweepRow 34 = .ok (.lcmp, 1) := by decide +kernel
theorem dX1_sweepRow_35 : decode cX1_sweepRow 35 = .ok (.ifCond .eq 84, 3) := by decide +kernel
theorem dX1_sweepRow_38 : decode cX1_sweepRow 38 = .ok (.iload 7, 2) := by decide +kernel
theorem dX1_sweepRow_40 : decode cX1_sweepRow 40 = .ok (.aload_n 0, 1) := by decide +kernel
theorem dX1_sweepRow_41 : decode cX1_sweepRow 41 = .ok (.getfield 31, 3) := by decide +kernel
theorem dX1_sweepRow_44 : decode cX1_sweepRow 44 = .ok (.if_icmp .gt 75, 3) := by decide +kernel
theorem dX1_sweepRow_47 : decode cX1_sweepRow 47 = .ok (.iload 7, 2) := by decide +kernel
theorem dX1_sweepRow_49 : decode cX1_sweepRow 49 = .ok (.iload_n 2, 1) := by decide +kernel
theorem dX1_sweepRow_50 : decode cX1_sweepRow 50 = .ok (.if_icmp .eq 63, 3) := by decide +kernel
theorem dX1_sweepRow_53 : decode cX1_sweepRow 53 = .ok (.iload 7, 2) := by decide +kernel
theorem dX1_sweepRow_55 : decode cX1_sweepRow 55 = .ok (.iload_n 2, 1) := by decide +kernel
theorem dX1_sweepRow_56 : decode cX1_sweepRow 56 = .ok (.if_icmp .ge 15, 3) := by decide +kernel
theorem dX1_sweepRow_59 : decode cX1_sweepRow 59 = .ok (.aload_n 0, 1) := by decide +kernel
theorem dX1_sweepRow_60 : decode cX1_sweepRow 60 = .ok (.getfield 16, 3) := by decide +kernel
theorem dX1_sweepRow_63 : decode cX1_sweepRow 63 = .ok (.iload 7, 2) := by decide +kernel
theorem dX1_sweepRow_65 : decode cX1_sweepRow 65 = .ok (.aaload, 1) := by decide +kernel
theorem dX1_sweepRow_66 : decode cX1_sweepRow 66 = .ok (.iload_n 2, 1) := by decide +kernel
theorem dX1_sweepRow_67 : decode cX1_sweepRow 67 = .ok (.laload, 1) := by decide +kernel
theorem dX1_sweepRow_68 : decode cX1_sweepRow 68 = .ok (.goto 12, 3) := by decide +kernel
theorem dX1_sweepRow_71 : decode cX1_sweepRow 71 = .ok (.aload_n 0, 1) := by decide +kernel
theorem dX1_sweepRow_72 : decode cX1_sweepRow 72 = .ok (.getfield 16, 3) := by decide +kernel
theorem dX1_sweepRow_75 : decode cX1_sweepRow 75 = .ok (.iload_n 2, 1) := by decide +kernel
theorem dX1_sweepRow_76 : decode cX1_sweepRow 76 = .ok (.aaload, 1) := by decide +kernel
theorem dX1_sweepRow_77 : decode cX1_sweepRow 77 = .ok (.iload 7, 2) := by decide +kernel
theorem dX1_sweepRow_79 : decode cX1_sweepRow 79 = .ok (.laload, 1) := by decide +kernel
theorem dX1_sweepRow_80 : decode cX1_sweepRow 80 = .ok (.lstore 8, 2) := by decide +kernel
theorem dX1_sweepRow_82 : decode cX1_sweepRow 82 = .ok (.aload_n 0, 1) := by decide +kernel
theorem dX1_sweepRow_83 : decode cX1_sweepRow 83 = .ok (.getfield 16, 3) := by decide +kernel
theorem dX1_sweepRow_86 : decode cX1_sweepRow 86 = .ok (.iload_n 1, 1) := by decide +kernel
theorem dX1_sweepRow_87 : decode cX1_sweepRow 87 = .ok (.aaload, 1) := by decide +kernel
theorem dX1_sweepRow_88 : decode cX1_sweepRow 88 = .ok (.iload 7, 2) := by decide +kernel
theorem dX1_sweepRow_90 : decode cX1_sweepRow 90 = .ok (.aload_n 0, 1) := by decide +kernel
theorem dX1_sweepRow_91 : decode cX1_sweepRow 91 = .ok (.getfield 16, 3) := by decide +kernel
theorem dX1_sweepRow_94 : decode cX1_sweepRow 94 = .ok (.iload_n 1, 1) := by decide +kernel
theorem dX1_sweepRow_95 : decode cX1_sweepRow 95 = .ok (.aaload, 1) := by decide +kernel
theorem dX1_sweepRow_96 : decode cX1_sweepRow 96 = .ok (.iload 7, 2) := by decide +kernel
theorem dX1_sweepRow_98 : decode cX1_sweepRow 98 = .ok (.laload, 1) := by decide +kernel
theorem dX1_sweepRow_99 : decode cX1_sweepRow 99 = .ok (.lload_n 3, 1) := by decide +kernel
theorem dX1_sweepRow_100 : decode cX1_sweepRow 100 = .ok (.lmul, 1) := by decide +kernel
theorem dX1_sweepRow_101 : decode cX1_sweepRow 101 = .ok (.lload 5, 2) := by decide +kernel
theorem dX1_sweepRow_103 : decode cX1_sweepRow 103 = .ok (.lload 8, 2) := by decide +kernel
theorem dX1_sweepRow_105 : decode cX1_sweepRow 105 = .ok (.lmul, 1) := by decide +kernel
theorem dX1_sweepRow_106 : decode cX1_sweepRow 106 = .ok (.lsub, 1) := by decide +kernel
theorem dX1_sweepRow_107 : decode cX1_sweepRow 107 = .ok (.aload_n 0, 1) := by decide +kernel
theorem dX1_sweepRow_108 : decode cX1_sweepRow 108 = .ok (.getfield 34, 3) := by decide +kernel
theorem dX1_sweepRow_111 : decode cX1_sweepRow 111 = .ok (.ldiv, 1) := by decide +kernel
theorem dX1_sweepRow_112 : decode cX1_sweepRow 112 = .ok (.lastore, 1) := by decide +kernel
theorem dX1_sweepRow_113 : decode cX1_sweepRow 113 = .ok (.iinc 7 1, 3) := by decide +kernel
theorem dX1_sweepRow_116 : decode cX1_sweepRow 116 = .ok (.goto (-87), 3) := by decide +kernel
theorem dX1_sweepRow_119 : decode cX1_sweepRow 119 = .ok (.return_, 1) := by decide +kernel
theorem dX1_valueAbove_0 : decode cX1_valueAbove 0 = .ok (.aload_n 0, 1) := by decide +kernel
theorem dX1_valueAbove_1 : decode cX1_valueAbove 1 = .ok (.getfield 16, 3) := by decide +kernel
theorem dX1_valueAbove_4 : decode cX1_valueAbove 4 = .ok (.iload_n 1, 1) := by decide +kernel
theorem dX1_valueAbove_5 : decode cX1_valueAbove 5 = .ok (.aaload, 1) := by decide +kernel
theorem dX1_valueAbove_6 : decode cX1_valueAbove 6 = .ok (.aload_n 0, 1) := by decide +kernel
theorem dX1_valueAbove_7 : decode cX1_valueAbove 7 = .ok (.getfield 31, 3) := by decide +kernel
theorem dX1_valueAbove_10 : decode cX1_valueAbove 10 = .ok (.laload, 1) := by decide +kernel
theorem dX1_valueAbove_11 : decode cX1_valueAbove 11 = .ok (.lreturn, 1) := by decide +kernel
theorem dX1_spreadAbove_0 : decode cX1_spreadAbove 0 = .ok (.aload_n 0, 1) := by decide +kernel
theorem dX1_spreadAbove_1 : decode cX1_spreadAbove 1 = .ok (.getfield 16, 3) := by decide +kernel
theorem dX1_spreadAbove_4 : decode cX1_spreadAbove 4 = .ok (.iload_n 1, 1) := by decide +kernel
theorem dX1_spreadAbove_5 : decode cX1_spreadAbove 5 = .ok (.aaload, 1) := by decide +kernel
theorem dX1_spreadAbove_6 : decode cX1_spreadAbove 6 = .ok (.iload_n 1, 1) := by decide +kernel
theorem dX1_spreadAbove_7 : decode cX1_spreadAbove 7 = .ok (.laload, 1) := by decide +kernel
theorem dX1_spreadAbove_8 : decode cX1_spreadAbove 8 = .ok (.lneg, 1) := by decide +kernel
theorem dX1_spreadAbove_9 : decode cX1_spreadAbove 9 = .ok (.lreturn, 1) := by decide +kernel
theorem dX1_totalAbove_0 : decode cX1_totalAbove 0 = .ok (.lconst 0, 1) := by decide +kernel
theorem dX1_totalAbove_1 : decode cX1_totalAbove 1 = .ok (.lstore_n 1, 1) := by decide +kernel
theorem dX1_totalAbove_2 : decode cX1_totalAbove 2 = .ok (.iconst 0, 1) := by decide +kernel
theorem dX1_totalAbove_3 : decode cX1_totalAbove 3 = .ok (.istore_n 3, 1) := by decide +kernel
theorem dX1_totalAbove_4 : decode cX1_totalAbove 4 = .ok (.iload_n 3, 1) := by decide +kernel
theorem dX1_totalAbove_5 : decode cX1_totalAbove 5 = .ok (.aload_n 0, 1) := by decide +kernel
theorem dX1_totalAbove_6 : decode cX1_totalAbove 6 = .ok (.getfield 27, 3) := by decide +kernel
theorem dX1_totalAbove_9 : decode cX1_totalAbove 9 = .ok (.if_icmp .ge 17, 3) := by decide +kernel
theorem dX1_totalAbove_12 : decode cX1_totalAbove 12 = .ok (.lload_n 1, 1) := by decide +kernel
theorem dX1_totalAbove_13 : decode cX1_totalAbove 13 = .ok (.aload_n 0, 1) := by decide +kernel
theorem dX1_totalAbove_14 : decode cX1_totalAbove 14 = .ok (.iload_n 3, 1) := by decide +kernel
theorem dX1_totalAbove_15 : decode cX1_totalAbove 15 = .ok (.invokevirtual 80, 3) := by decide +kernel
theorem dX1_totalAbove_18 : decode cX1_totalAbove 18 = .ok (.ladd, 1) := by decide +kernel
theorem dX1_totalAbove_19 : decode cX1_totalAbove 19 = .ok (.lstore_n 1, 1) := by decide +kernel
theorem dX1_totalAbove_20 : decode cX1_totalAbove 20 = .ok (.iinc 3 1, 3) := by decide +kernel
theorem dX1_totalAbove_23 : decode cX1_totalAbove 23 = .ok (.goto (-19), 3) := by decide +kernel
theorem dX1_totalAbove_26 : decode cX1_totalAbove 26 = .ok (.lload_n 1, 1) := by decide +kernel
theorem dX1_totalAbove_27 : decode cX1_totalAbove 27 = .ok (.lreturn, 1) := by decide +kernel
theorem dX1_restAbove_0 : decode cX1_restAbove 0 = .ok (.aload_n 1, 1) := by decide +kernel
theorem dX1_restAbove_1 : decode cX1_restAbove 1 = .ok (.iload_n 2, 1) := by decide +kernel
theorem dX1_restAbove_2 : decode cX1_restAbove 2 = .ok (.aload_n 0, 1) := by decide +kernel
theorem dX1_restAbove_3 : decode cX1_restAbove 3 = .ok (.getfield 23, 3) := by decide +kernel
theorem dX1_restAbove_6 : decode cX1_restAbove 6 = .ok (.aload_n 0, 1) := by decide +kernel
theorem dX1_restAbove_7 : decode cX1_restAbove 7 = .ok (.getfield 19, 3) := by decide +kernel
theorem dX1_restAbove_10 : decode cX1_restAbove 10 = .ok (.invokevirtual 62, 3) := by decide +kernel
theorem dX1_restAbove_13 : decode cX1_restAbove 13 = .ok (.aload_n 0, 1) := by decide +kernel
theorem dX1_restAbove_14 : decode cX1_restAbove 14 = .ok (.getfield 19, 3) := by decide +kernel
theorem dX1_restAbove_17 : decode cX1_restAbove 17 = .ok (.aload_n 0, 1) := by decide +kernel
theorem dX1_restAbove_18 : decode cX1_restAbove 18 = .ok (.getfield 31, 3) := by decide +kernel
theorem dX1_restAbove_21 : decode cX1_restAbove 21 = .ok (.laload, 1) := by decide +kernel
theorem dX1_restAbove_22 : decode cX1_restAbove 22 = .ok (.aload_n 0, 1) := by decide +kernel
theorem dX1_restAbove_23 : decode cX1_restAbove 23 = .ok (.getfield 34, 3) := by decide +kernel
theorem dX1_restAbove_26 : decode cX1_restAbove 26 = .ok (.lmul, 1) := by decide +kernel
theorem dX1_restAbove_27 : decode cX1_restAbove 27 = .ok (.lstore_n 3, 1) := by decide +kernel
theorem dX1_restAbove_28 : decode cX1_restAbove 28 = .ok (.iconst 0, 1) := by decide +kernel
theorem dX1_restAbove_29 : decode cX1_restAbove 29 = .ok (.istore 5, 2) := by decide +kernel
theorem dX1_restAbove_31 : decode cX1_restAbove 31 = .ok (.iload 5, 2) := by decide +kernel
theorem dX1_restAbove_33 : decode cX1_restAbove 33 = .ok (.aload_n 0, 1) := by decide +kernel
theorem dX1_restAbove_34 : decode cX1_restAbove 34 = .ok (.getfield 31, 3) := by decide +kernel
theorem dX1_restAbove_37 : decode cX1_restAbove 37 = .ok (.if_icmp .ge 26, 3) := by decide +kernel
theorem dX1_restAbove_40 : decode cX1_restAbove 40 = .ok (.lload_n 3, 1) := by decide +kernel
theorem dX1_restAbove_41 : decode cX1_restAbove 41 = .ok (.aload_n 0, 1) := by decide +kernel
theorem dX1_restAbove_42 : decode cX1_restAbove 42 = .ok (.getfield 19, 3) := by decide +kernel
theorem dX1_restAbove_45 : decode cX1_restAbove 45 = .ok (.iload 5, 2) := by decide +kernel
theorem dX1_restAbove_47 : decode cX1_restAbove 47 = .ok (.laload, 1) := by decide +kernel
theorem dX1_restAbove_48 : decode cX1_restAbove 48 = .ok (.aload_n 0, 1) := by decide +kernel
theorem dX1_restAbove_49 : decode cX1_restAbove 49 = .ok (.iload 5, 2) := by decide +kernel
theorem dX1_restAbove_51 : decode cX1_restAbove 51 = .ok (.invokevirtual 84, 3) := by decide +kernel
theorem dX1_restAbove_54 : decode cX1_restAbove 54 = .ok (.lmul, 1) := by decide +kernel
theorem dX1_restAbove_55 : decode cX1_restAbove 55 = .ok (.lsub, 1) := by decide +kernel
theorem dX1_restAbove_56 : decode cX1_restAbove 56 = .ok (.lstore_n 3, 1) := by decide +kernel
theorem dX1_restAbove_57 : decode cX1_restAbove 57 = .ok (.iinc 5 1, 3) := by decide +kernel
theorem dX1_restAbove_60 : decode cX1_restAbove 60 = .ok (.goto (-29), 3) := by decide +kernel
theorem dX1_restAbove_63 : decode cX1_restAbove 63 = .ok (.lload_n 3, 1) := by decide +kernel
theorem dX1_restAbove_64 : decode cX1_restAbove 64 = .ok (.lreturn, 1) := by decide +kernel
theorem dX1_squaresAbove_0 : decode cX1_squaresAbove 0 = .ok (.aload_n 0, 1) := by decide +kernel
theorem dX1_squaresAbove_1 : decode cX1_squaresAbove 1 = .ok (.getfield 16, 3) := by decide +kernel
theorem dX1_squaresAbove_4 : decode cX1_squaresAbove 4 = .ok (.aload_n 0, 1) := by decide +kernel
theorem dX1_squaresAbove_5 : decode cX1_squaresAbove 5 = .ok (.getfield 31, 3) := by decide +kernel
theorem dX1_squaresAbove_8 : decode cX1_squaresAbove 8 = .ok (.aaload, 1) := by decide +kernel
theorem dX1_squaresAbove_9 : decode cX1_squaresAbove 9 = .ok (.aload_n 0, 1) := by decide +kernel
theorem dX1_squaresAbove_10 : decode cX1_squaresAbove 10 = .ok (.getfield 31, 3) := by decide +kernel
theorem dX1_squaresAbove_13 : decode cX1_squaresAbove 13 = .ok (.laload, 1) := by decide +kernel
theorem dX1_squaresAbove_14 : decode cX1_squaresAbove 14 = .ok (.lreturn, 1) := by decide +kernel
theorem dX1_mostDoubtful_0 : decode cX1_mostDoubtful 0 = .ok (.aload_n 0, 1) := by decide +kernel
theorem dX1_mostDoubtful_1 : decode cX1_mostDoubtful 1 = .ok (.aload_n 1, 1) := by decide +kernel
theorem dX1_mostDoubtful_2 : decode cX1_mostDoubtful 2 = .ok (.iload_n 2, 1) := by decide +kernel
theorem dX1_mostDoubtful_3 : decode cX1_mostDoubtful 3 = .ok (.invokevirtual 38, 3) := by decide +kernel
theorem dX1_mostDoubtful_6 : decode cX1_mostDoubtful 6 = .ok (.bipush (-9), 2) := by decide +kernel
theorem dX1_mostDoubtful_8 : decode cX1_mostDoubtful 8 = .ok (.istore_n 3, 1) := by decide +kernel
theorem dX1_mostDoubtful_9 : decode cX1_mostDoubtful 9 = .ok (.lconst 0, 1) := by decide +kernel
theorem dX1_mostDoubtful_10 : decode cX1_mostDoubtful 10 = .ok (.lstore 4, 2) := by decide +kernel
theorem dX1_mostDoubtful_12 : decode cX1_mostDoubtful 12 = .ok (.lconst 1, 1) := by decide +kernel
theorem dX1_mostDoubtful_13 : decode cX1_mostDoubtful 13 = .ok (.lstore 6, 2) := by decide +kernel
theorem dX1_mostDoubtful_15 : decode cX1_mostDoubtful 15 = .ok (.iconst 0, 1) := by decide +kernel
theorem dX1_mostDoubtful_16 : decode cX1_mostDoubtful 16 = .ok (.istore 8, 2) := by decide +kernel
theorem dX1_mostDoubtful_18 : decode cX1_mostDoubtful 18 = .ok (.iload 8, 2) := by decide +kernel
theorem dX1_mostDoubtful_20 : decode cX1_mostDoubtful 20 = .ok (.aload_n 1, 1) := by decide +kernel
theorem dX1_mostDoubtful_21 : decode cX1_mostDoubtful 21 = .ok (.getfield 59, 3) := by decide +kernel
theorem dX1_mostDoubtful_24 : decode cX1_mostDoubtful 24 = .ok (.if_icmp .ge 58, 3) := by decide +kernel
theorem dX1_mostDoubtful_27 : decode cX1_mostDoubtful 27 = .ok (.aload_n 0, 1) := by decide +kernel
theorem dX1_mostDoubtful_28 : decode cX1_mostDoubtful 28 = .ok (.aload_n 1, 1) := by decide +kernel
theorem dX1_mostDoubtful_29 : decode cX1_mostDoubtful 29 = .ok (.iload 8, 2) := by decide +kernel
theorem dX1_mostDoubtful_31 : decode cX1_mostDoubtful 31 = .ok (.invokevirtual 87, 3) := by decide +kernel
theorem dX1_mostDoubtful_34 : decode cX1_mostDoubtful 34 = .ok (.ifCond .eq 42, 3) := by decide +kernel
theorem dX1_mostDoubtful_37 : decode cX1_mostDoubtful 37 = .ok (.iload_n 3, 1) := by decide +kernel
theorem dX1_mostDoubtful_38 : decode cX1_mostDoubtful 38 = .ok (.bipush (-9), 2) := by decide +kernel
theorem dX1_mostDoubtful_40 : decode cX1_mostDoubtful 40 = .ok (.if_icmp .eq 21, 3) := by decide +kernel
theorem dX1_mostDoubtful_43 : decode cX1_mostDoubtful 43 = .ok (.aload_n 0, 1) := by decide +kernel
theorem dX1_mostDoubtful_44 : decode cX1_mostDoubtful 44 = .ok (.invokevirtual 91, 3) := by decide +kernel
theorem dX1_mostDoubtful_47 : decode cX1_mostDoubtful 47 = .ok (.aload_n 0, 1) := by decide +kernel
theorem dX1_mostDoubtful_48 : decode cX1_mostDoubtful 48 = .ok (.getfield 34, 3) := by decide +kernel
theorem dX1_mostDoubtful_51 : decode cX1_mostDoubtful 51 = .ok (.lload 4, 2) := by decide +kernel
theorem dX1_mostDoubtful_53 : decode cX1_mostDoubtful 53 = .ok (.lload 6, 2) := by decide +kernel
theorem dX1_mostDoubtful_55 : decode cX1_mostDoubtful 55 = .ok (.invokestatic 95, 3) := by decide +kernel
theorem dX1_mostDoubtful_58 : decode cX1_mostDoubtful 58 = .ok (.ifCond .eq 18, 3) := by decide +kernel
theorem dX1_mostDoubtful_61 : decode cX1_mostDoubtful 61 = .ok (.iload 8, 2) := by decide +kernel
theorem dX1_mostDoubtful_63 : decode cX1_mostDoubtful 63 = .ok (.istore_n 3, 1) := by decide +kernel
theorem dX1_mostDoubtful_64 : decode cX1_mostDoubtful 64 = .ok (.aload_n 0, 1) := by decide +kernel
theorem dX1_mostDoubtful_65 : decode cX1_mostDoubtful 65 = .ok (.invokevirtual 91, 3) := by decide +kernel
theorem dX1_mostDoubtful_68 : decode cX1_mostDoubtful 68 = .ok (.lstore 4, 2) := by decide +kernel
theorem dX1_mostDoubtful_70 : decode cX1_mostDoubtful 70 = .ok (.aload_n 0, 1) := by decide +kernel
theorem dX1_mostDoubtful_71 : decode cX1_mostDoubtful 71 = .ok (.getfield 34, 3) := by decide +kernel
theorem dX1_mostDoubtful_74 : decode cX1_mostDoubtful 74 = .ok (.lstore 6, 2) := by decide +kernel
theorem dX1_mostDoubtful_76 : decode cX1_mostDoubtful 76 = .ok (.iinc 8 1, 3) := by decide +kernel
theorem dX1_mostDoubtful_79 : decode cX1_mostDoubtful 79 = .ok (.goto (-61), 3) := by decide +kernel
theorem dX1_mostDoubtful_82 : decode cX1_mostDoubtful 82 = .ok (.iload_n 3, 1) := by decide +kernel
theorem dX1_mostDoubtful_83 : decode cX1_mostDoubtful 83 = .ok (.ireturn, 1) := by decide +kernel
theorem dX1_thoseAlone_0 : decode cX1_thoseAlone 0 = .ok (.aload_n 0, 1) := by decide +kernel
theorem dX1_thoseAlone_1 : decode cX1_thoseAlone 1 = .ok (.aload_n 1, 1) := by decide +kernel
theorem dX1_thoseAlone_2 : decode cX1_thoseAlone 2 = .ok (.iload_n 2, 1) := by decide +kernel
theorem dX1_thoseAlone_3 : decode cX1_thoseAlone 3 = .ok (.invokevirtual 38, 3) := by decide +kernel
theorem dX1_thoseAlone_6 : decode cX1_thoseAlone 6 = .ok (.iconst 0, 1) := by decide +kernel
theorem dX1_thoseAlone_7 : decode cX1_thoseAlone 7 = .ok (.istore_n 3, 1) := by decide +kernel
theorem dX1_thoseAlone_8 : decode cX1_thoseAlone 8 = .ok (.iconst 0, 1) := by decide +kernel
theorem dX1_thoseAlone_9 : decode cX1_thoseAlone 9 = .ok (.istore 4, 2) := by decide +kernel
theorem dX1_thoseAlone_11 : decode cX1_thoseAlone 11 = .ok (.iload 4, 2) := by decide +kernel
theorem dX1_thoseAlone_13 : decode cX1_thoseAlone 13 = .ok (.aload_n 1, 1) := by decide +kernel
theorem dX1_thoseAlone_14 : decode cX1_thoseAlone 14 = .ok (.getfield 59, 3) := by decide +kernel
theorem dX1_thoseAlone_17 : decode cX1_thoseAlone 17 = .ok (.if_icmp .ge 35, 3) := by decide +kernel
theorem dX1_thoseAlone_20 : decode cX1_thoseAlone 20 = .ok (.aload_n 0, 1) := by decide +kernel
theorem dX1_thoseAlone_21 : decode cX1_thoseAlone 21 = .ok (.aload_n 1, 1) := by decide +kernel
theorem dX1_thoseAlone_22 : decode cX1_thoseAlone 22 = .ok (.iload 4, 2) := by decide +kernel
theorem dX1_thoseAlone_24 : decode cX1_thoseAlone 24 = .ok (.invokevirtual 87, 3) := by decide +kernel
theorem dX1_thoseAlone_27 : decode cX1_thoseAlone 27 = .ok (.ifCond .eq 19, 3) := by decide +kernel
theorem dX1_thoseAlone_30 : decode cX1_thoseAlone 30 = .ok (.aload_n 0, 1) := by decide +kernel
theorem dX1_thoseAlone_31 : decode cX1_thoseAlone 31 = .ok (.invokevirtual 91, 3) := by decide +kernel
theorem dX1_thoseAlone_34 : decode cX1_thoseAlone 34 = .ok (.lconst 0, 1) := by decide +kernel
theorem dX1_thoseAlone_35 : decode cX1_thoseAlone 35 = .ok (.lcmp, 1) := by decide +kernel
theorem dX1_thoseAlone_36 : decode cX1_thoseAlone 36 = .ok (.ifCond .ne 10, 3) := by decide +kernel
theorem dX1_thoseAlone_39 : decode cX1_thoseAlone 39 = .ok (.iload_n 3, 1) := by decide +kernel
theorem dX1_thoseAlone_40 : decode cX1_thoseAlone 40 = .ok (.iconst 1, 1) := by decide +kernel
theorem dX1_thoseAlone_41 : decode cX1_thoseAlone 41 = .ok (.iload 4, 2) := by decide +kernel
theorem dX1_thoseAlone_43 : decode cX1_thoseAlone 43 = .ok (.ishl, 1) := by decide +kernel
theorem dX1_thoseAlone_44 : decode cX1_thoseAlone 44 = .ok (.ior, 1) := by decide +kernel
theorem dX1_thoseAlone_45 : decode cX1_thoseAlone 45 = .ok (.istore_n 3, 1) := by decide +kernel
theorem dX1_thoseAlone_46 : decode cX1_thoseAlone 46 = .ok (.iinc 4 1, 3) := by decide +kernel
theorem dX1_thoseAlone_49 : decode cX1_thoseAlone 49 = .ok (.goto (-38), 3) := by decide +kernel
theorem dX1_thoseAlone_52 : decode cX1_thoseAlone 52 = .ok (.iload_n 3, 1) := by decide +kernel
theorem dX1_thoseAlone_53 : decode cX1_thoseAlone 53 = .ok (.ireturn, 1) := by decide +kernel
theorem dX2_init_0 : decode cX2_init 0 = .ok (.aload_n 0, 1) := by decide +kernel
theorem dX2_init_1 : decode cX2_init 1 = .ok (.invokespecial 3, 3) := by decide +kernel
theorem dX2_init_4 : decode cX2_init 4 = .ok (.aload_n 0, 1) := by decide +kernel
theorem dX2_init_5 : decode cX2_init 5 = .ok (.iconst 5, 1) := by decide +kernel
theorem dX2_init_6 : decode cX2_init 6 = .ok (.bipush 6, 2) := by decide +kernel
theorem dX2_init_8 : decode cX2_init 8 = .ok (.multianewarray 9 2, 4) := by decide +kernel
theorem dX2_init_12 : decode cX2_init 12 = .ok (.putfield 11, 3) := by decide +kernel
theorem dX2_init_15 : decode cX2_init 15 = .ok (.aload_n 0, 1) := by decide +kernel
theorem dX2_init_16 : decode cX2_init 16 = .ok (.iconst 5, 1) := by decide +kernel
theorem dX2_init_17 : decode cX2_init 17 = .ok (.newarray .int, 2) := by decide +kernel
theorem dX2_init_19 : decode cX2_init 19 = .ok (.putfield 16, 3) := by decide +kernel
theorem dX2_init_22 : decode cX2_init 22 = .ok (.aload_n 0, 1) := by decide +kernel
theorem dX2_init_23 : decode cX2_init 23 = .ok (.sipush 256, 3) := by decide +kernel
theorem dX2_init_26 : decode cX2_init 26 = .ok (.newarray .int, 2) := by decide +kernel
theorem dX2_init_28 : decode cX2_init 28 = .ok (.putfield 20, 3) := by decide +kernel
theorem dX2_init_31 : decode cX2_init 31 = .ok (.return_, 1) := by decide +kernel
theorem dX2_ofAll_0 : decode cX2_ofAll 0 = .ok (.iconst 0, 1) := by decide +kernel
theorem dX2_ofAll_1 : decode cX2_ofAll 1 = .ok (.istore_n 3, 1) := by decide +kernel
theorem dX2_ofAll_2 : decode cX2_ofAll 2 = .ok (.iconst 0, 1) := by decide +kernel
theorem dX2_ofAll_3 : decode cX2_ofAll 3 = .ok (.istore 4, 2) := by decide +kernel
theorem dX2_ofAll_5 : decode cX2_ofAll 5 = .ok (.iload 4, 2) := by decide +kernel
theorem dX2_ofAll_7 : decode cX2_ofAll 7 = .ok (.aload_n 1, 1) := by decide +kernel
theorem dX2_ofAll_8 : decode cX2_ofAll 8 = .ok (.getfield 23, 3) := by decide +kernel
theorem dX2_ofAll_11 : decode cX2_ofAll 11 = .ok (.if_icmp .ge 19, 3) := by decide +kernel
theorem dX2_ofAll_14 : decode cX2_ofAll 14 = .ok (.aload_n 0, 1) := by decide +kernel
theorem dX2_ofAll_15 : decode cX2_ofAll 15 = .ok (.iload_n 3, 1) := by decide +kernel
theorem dX2_ofAll_16 : decode cX2_ofAll 16 = .ok (.aload_n 1, 1) := by decide +kernel
theorem dX2_ofAll_17 : decode cX2_ofAll 17 = .ok (.iload 4, 2) := by decide +kernel
theorem dX2_ofAll_19 : decode cX2_ofAll 19 = .ok (.iload_n 2, 1) := by decide +kernel
theorem dX2_ofAll_20 : decode cX2_ofAll 20 = .ok (.invokevirtual 29, 3) := by decide +kernel
theorem dX2_ofAll_23 : decode cX2_ofAll 23 = .ok (.istore_n 3, 1) := by decide +kernel
theorem dX2_ofAll_24 : decode cX2_ofAll 24 = .ok (.iinc 4 1, 3) := by decide +kernel
theorem dX2_ofAll_27 : decode cX2_ofAll 27 = .ok (.goto (-22), 3) := by decide +kernel
theorem dX2_ofAll_30 : decode cX2_ofAll 30 = .ok (.iload_n 3, 1) := by decide +kernel
theorem dX2_ofAll_31 : decode cX2_ofAll 31 = .ok (.ireturn, 1) := by decide +kernel
theorem dX2_ofEach_0 : decode cX2_ofEach 0 = .ok (.aload_n 0, 1) := by decide +kernel
theorem dX2_ofEach_1 : decode cX2_ofEach 1 = .ok (.getfield 20, 3) := by decide +kernel
theorem dX2_ofEach_4 : decode cX2_ofEach 4 = .ok (.iconst 0, 1) := by decide +kernel
theorem dX2_ofEach_5 : decode cX2_ofEach 5 = .ok (.iconst 0, 1) := by decide +kernel
theorem dX2_ofEach_6 : decode cX2_ofEach 6 = .ok (.iastore, 1) := by decide +kernel
theorem dX2_ofEach_7 : decode cX2_ofEach 7 = .ok (.iconst 1, 1) := by decide +kernel
theorem dX2_ofEach_8 : decode cX2_ofEach 8 = .ok (.istore_n 3, 1) := by decide +kernel
theorem dX2_ofEach_9 : decode cX2_ofEach 9 = .ok (.iload_n 3, 1) := by decide +kernel
theorem dX2_ofEach_10 : decode cX2_ofEach 10 = .ok (.iconst 1, 1) := by decide +kernel
theorem dX2_ofEach_11 : decode cX2_ofEach 11 = .ok (.aload_n 1, 1) := by decide +kernel
theorem dX2_ofEach_12 : decode cX2_ofEach 12 = .ok (.getfield 23, 3) := by decide +kernel
theorem dX2_ofEach_15 : decode cX2_ofEach 15 = .ok (.ishl, 1) := by decide +kernel
theorem dX2_ofEach_16 : decode cX2_ofEach 16 = .ok (.if_icmp .ge 48, 3) := by decide +kernel
theorem dX2_ofEach_19 : decode cX2_ofEach 19 = .ok (.iload_n 3, 1) := by decide +kernel
theorem dX2_ofEach_20 : decode cX2_ofEach 20 = .ok (.iload_n 3, 1) := by decide +kernel
theorem dX2_ofEach_21 : decode cX2_ofEach 21 = .ok (.iconst 1, 1) := by decide +kernel
theorem dX2_ofEach_22 : decode cX2_ofEach 22 = .ok (.isub, 1) := by decide +kernel
theorem dX2_ofEach_23 : decode cX2_ofEach 23 = .ok (.iand, 1) := by decide +kernel
theorem dX2_ofEach_24 : decode cX2_ofEach 24 = .ok (.istore 4, 2) := by decide +kernel
theorem dX2_ofEach_26 : decode cX2_ofEach 26 = .ok (.iload_n 3, 1) := by decide +kernel
theorem dX2_ofEach_27 : decode cX2_ofEach 27 = .ok (.iload 4, 2) := by decide +kernel
theorem dX2_ofEach_29 : decode cX2_ofEach 29 = .ok (.ixor, 1) := by decide +kernel
theorem dX2_ofEach_30 : decode cX2_ofEach 30 = .ok (.iconst 1, 1) := by decide +kernel
theorem dX2_ofEach_31 : decode cX2_ofEach 31 = .ok (.isub, 1) := by decide +kernel
theorem dX2_ofEach_32 : decode cX2_ofEach 32 = .ok (.invokestatic 33, 3) := by decide +kernel
theorem dX2_ofEach_35 : decode cX2_ofEach 35 = .ok (.istore 5, 2) := by decide +kernel
theorem dX2_ofEach_37 : decode cX2_ofEach 37 = .ok (.aload_n 0, 1) := by decide +kernel
theorem dX2_ofEach_38 : decode cX2_ofEach 38 = .ok (.getfield 20, 3) := by decide +kernel
theorem dX2_ofEach_41 : decode cX2_ofEach 41 = .ok (.iload_n 3, 1) := by decide +kernel
theorem dX2_ofEach_42 : decode cX2_ofEach 42 = .ok (.aload_n 0, 1) := by decide +kernel
theorem dX2_ofEach_43 : decode cX2_ofEach 43 = .ok (.aload_n 0, 1) := by decide +kernel
theorem dX2_ofEach_44 : decode cX2_ofEach 44 = .ok (.getfield 20, 3) := by decide +kernel
theorem dX2_ofEach_47 : decode cX2_ofEach 47 = .ok (.iload 4, 2) := by decide +kernel
theorem dX2_ofEach_49 : decode cX2_ofEach 49 = .ok (.iaload, 1) := by decide +kernel
theorem dX2_ofEach_50 : decode cX2_ofEach 50 = .ok (.aload_n 1, 1) := by decide +kernel
theorem dX2_ofEach_51 : decode cX2_ofEach 51 = .ok (.iload 5, 2) := by decide +kernel
theorem dX2_ofEach_53 : decode cX2_ofEach 53 = .ok (.iload_n 2, 1) := by decide +kernel
theorem dX2_ofEach_54 : decode cX2_ofEach 54 = .ok (.invokevirtual 29, 3) := by decide +kernel
theorem dX2_ofEach_57 : decode cX2_ofEach 57 = .ok (.iastore, 1) := by decide +kernel
theorem dX2_ofEach_58 : decode cX2_ofEach 58 = .ok (.iinc 3 1, 3) := by decide +kernel
theorem dX2_ofEach_61 : decode cX2_ofEach 61 = .ok (.goto (-52), 3) := by decide +kernel
theorem dX2_ofEach_64 : decode cX2_ofEach 64 = .ok (.return_, 1) := by decide +kernel
theorem dX2_extended_0 : decode cX2_extended 0 = .ok (.aload_n 2, 1) := by decide +kernel
theorem dX2_extended_1 : decode cX2_extended 1 = .ok (.iload 4, 2) := by decide +kernel
theorem dX2_extended_3 : decode cX2_extended 3 = .ok (.invokevirtual 39, 3) := by decide +kernel
theorem dX2_extended_6 : decode cX2_extended 6 = .ok (.istore 5, 2) := by decide +kernel
theorem dX2_extended_8 : decode cX2_extended 8 = .ok (.iload_n 1, 1) := by decide +kernel
theorem dX2_extended_9 : decode cX2_extended 9 = .ok (.iload 5, 2) := by decide +kernel
theorem dX2_extended_11 : decode cX2_extended 11 = .ok (.if_icmp .lt 5, 3) := by decide +kernel
theorem dX2_extended_14 : decode cX2_extended 14 = .ok (.iload_n 1, 1) := by decide +kernel
theorem dX2_extended_15 : decode cX2_extended 15 = .ok (.ireturn, 1) := by decide +kernel
theorem dX2_extended_16 : decode cX2_extended 16 = .ok (.aload_n 0, 1) := by decide +kernel
theorem dX2_extended_17 : decode cX2_extended 17 = .ok (.getfield 11, 3) := by decide +kernel
theorem dX2_extended_20 : decode cX2_extended 20 = .ok (.iload_n 1, 1) := by decide +kernel
theorem dX2_extended_21 : decode cX2_extended 21 = .ok (.aaload, 1) := by decide +kernel
theorem dX2_extended_22 : decode cX2_extended 22 = .ok (.astore 6, 2) := by decide +kernel
theorem dX2_extended_24 : decode cX2_extended 24 = .ok (.aload_n 2, 1) := by decide +kernel
theorem dX2_extended_25 : decode cX2_extended 25 = .ok (.iload_n 3, 1) := by decide +kernel
theorem dX2_extended_26 : decode cX2_extended 26 = .ok (.iload 4, 2) := by decide +kernel
theorem dX2_extended_28 : decode cX2_extended 28 = .ok (.aload 6, 2) := by decide +kernel
theorem dX2_extended_30 : decode cX2_extended 30 = .ok (.invokevirtual 43, 3) := by decide +kernel
theorem dX2_extended_33 : decode cX2_extended 33 = .ok (.iconst 0, 1) := by decide +kernel
theorem dX2_extended_34 : decode cX2_extended 34 = .ok (.istore 7, 2) := by decide +kernel
theorem dX2_extended_36 : decode cX2_extended 36 = .ok (.iload 7, 2) := by decide +kernel
theorem dX2_extended_38 : decode cX2_extended 38 = .ok (.iload_n 1, 1) := by decide +kernel
theorem dX2_extended_39 : decode cX2_extended 39 = .ok (.if_icmp .ge 30, 3) := by decide +kernel
theorem dX2_extended_42 : decode cX2_extended 42 = .ok (.aload 6, 2) := by decide +kernel
theorem dX2_extended_44 : decode cX2_extended 44 = .ok (.aload_n 0, 1) := by decide +kernel
theorem dX2_extended_45 : decode cX2_extended 45 = .ok (.getfield 11, 3) := by decide +kernel
theorem dX2_extended_48 : decode cX2_extended 48 = .ok (.iload 7, 2) := by decide +kernel
theorem dX2_extended_50 : decode cX2_extended 50 = .ok (.aaload, 1) := by decide +kernel
theorem dX2_extended_51 : decode cX2_extended 51 = .ok (.aload_n 0, 1) := by decide +kernel
theorem dX2_extended_52 : decode cX2_extended 52 = .ok (.getfield 16, 3) := by decide +kernel
theorem dX2_extended_55 : decode cX2_extended 55 = .ok (.iload 7, 2) := by decide +kernel
theorem dX2_extended_57 : decode cX2_extended 57 = .ok (.iaload, 1) := by decide +kernel
theorem dX2_extended_58 : decode cX2_extended 58 = .ok (.iload 5, 2) := by decide +kernel
theorem dX2_extended_60 : decode cX2_extended 60 = .ok (.invokestatic 47, 3) := by decide +kernel
theorem dX2_extended_63 : decode cX2_extended 63 = .ok (.iinc 7 1, 3) := by decide +kernel
theorem dX2_extended_66 : decode cX2_extended 66 = .ok (.goto (-30), 3) := by decide +kernel
theorem dX2_extended_69 : decode cX2_extended 69 = .ok (.iconst 0, 1) := by decide +kernel
theorem dX2_extended_70 : decode cX2_extended 70 = .ok (.istore 7, 2) := by decide +kernel
theorem dX2_extended_72 : decode cX2_extended 72 = .ok (.iload 7, 2) := by decide +kernel
theorem dX2_extended_74 : decode cX2_extended 74 = .ok (.iload 5, 2) := by decide +kernel
theorem dX2_extended_76 : decode cX2_extended 76 = .ok (.if_icmp .ge 31, 3) := by decide +kernel
theorem dX2_extended_79 : decode cX2_extended 79 = .ok (.aload 6, 2) := by decide +kernel
theorem dX2_extended_81 : decode cX2_extended 81 = .ok (.iload 7, 2) := by decide +kernel
theorem dX2_extended_83 : decode cX2_extended 83 = .ok (.laload, 1) := by decide +kernel
theorem dX2_extended_84 : decode cX2_extended 84 = .ok (.lconst 0, 1) := by decide +kernel
theorem dX2_extended_85 : decode cX2_extended 85 = .ok (.lcmp, 1) := by decide +kernel
theorem dX2_extended_86 : decode cX2_extended 86 = .ok (.ifCond .eq 15, 3) := by decide +kernel
theorem dX2_extended_89 : decode cX2_extended 89 = .ok (.aload_n 0, 1) := by decide +kernel
theorem dX2_extended_90 : decode cX2_extended 90 = .ok (.getfield 16, 3) := by decide +kernel
theorem dX2_extended_93 : decode cX2_extended 93 = .ok (.iload_n 1, 1) := by decide +kernel
theorem dX2_extended_94 : decode cX2_extended 94 = .ok (.iload 7, 2) := by decide +kernel
theorem dX2_extended_96 : decode cX2_extended 96 = .ok (.iastore, 1) := by decide +kernel
theorem dX2_extended_97 : decode cX2_extended 97 = .ok (.iload_n 1, 1) := by decide +kernel
theorem dX2_extended_98 : decode cX2_extended 98 = .ok (.iconst 1, 1) := by decide +kernel
theorem dX2_extended_99 : decode cX2_extended 99 = .ok (.iadd, 1) := by decide +kernel
theorem dX2_extended_100 : decode cX2_extended 100 = .ok (.ireturn, 1) := by decide +kernel
theorem dX2_extended_101 : decode cX2_extended 101 = .ok (.iinc 7 1, 3) := by decide +kernel
theorem dX2_extended_104 : decode cX2_extended 104 = .ok (.goto (-32), 3) := by decide +kernel
theorem dX2_extended_107 : decode cX2_extended 107 = .ok (.iload_n 1, 1) := by decide +kernel
theorem dX2_extended_108 : decode cX2_extended 108 = .ok (.ireturn, 1) := by decide +kernel
theorem dX2_reduce_0 : decode cX2_reduce 0 = .ok (.aload_n 0, 1) := by decide +kernel
theorem dX2_reduce_1 : decode cX2_reduce 1 = .ok (.iload_n 2, 1) := by decide +kernel
theorem dX2_reduce_2 : decode cX2_reduce 2 = .ok (.laload, 1) := by decide +kernel
theorem dX2_reduce_3 : decode cX2_reduce 3 = .ok (.lstore 4, 2) := by decide +kernel
theorem dX2_reduce_5 : decode cX2_reduce 5 = .ok (.lload 4, 2) := by decide +kernel
theorem dX2_reduce_7 : decode cX2_reduce 7 = .ok (.lconst 0, 1) := by decide +kernel
theorem dX2_reduce_8 : decode cX2_reduce 8 = .ok (.lcmp, 1) := by decide +kernel
theorem dX2_reduce_9 : decode cX2_reduce 9 = .ok (.ifCond .ne 4, 3) := by decide +kernel
theorem dX2_reduce_12 : decode cX2_reduce 12 = .ok (.return_, 1) := by decide +kernel
theorem dX2_reduce_13 : decode cX2_reduce 13 = .ok (.aload_n 1, 1) := by decide +kernel
theorem dX2_reduce_14 : decode cX2_reduce 14 = .ok (.iload_n 2, 1) := by decide +kernel
theorem dX2_reduce_15 : decode cX2_reduce 15 = .ok (.laload, 1) := by decide +kernel
theorem dX2_reduce_16 : decode cX2_reduce 16 = .ok (.lstore 6, 2) := by decide +kernel
theorem dX2_reduce_18 : decode cX2_reduce 18 = .ok (.iconst 0, 1) := by decide +kernel
theorem dX2_reduce_19 : decode cX2_reduce 19 = .ok (.istore 8, 2) := by decide +kernel
theorem dX2_reduce_21 : decode cX2_reduce 21 = .ok (.iload 8, 2) := by decide +kernel
theorem dX2_reduce_23 : decode cX2_reduce 23 = .ok (.iload_n 3, 1) := by decide +kernel
theorem dX2_reduce_24 : decode cX2_reduce 24 = .ok (.if_icmp .ge 28, 3) := by decide +kernel
theorem dX2_reduce_27 : decode cX2_reduce 27 = .ok (.aload_n 0, 1) := by decide +kernel
theorem dX2_reduce_28 : decode cX2_reduce 28 = .ok (.iload 8, 2) := by decide +kernel
theorem dX2_reduce_30 : decode cX2_reduce 30 = .ok (.aload_n 0, 1) := by decide +kernel
theorem dX2_reduce_31 : decode cX2_reduce 31 = .ok (.iload 8, 2) := by decide +kernel
theorem dX2_reduce_33 : decode cX2_reduce 33 = .ok (.laload, 1) := by decide +kernel
theorem dX2_reduce_34 : decode cX2_reduce 34 = .ok (.lload 6, 2) := by decide +kernel
theorem dX2_reduce_36 : decode cX2_reduce 36 = .ok (.lmul, 1) := by decide +kernel
theorem dX2_reduce_37 : decode cX2_reduce 37 = .ok (.aload_n 1, 1) := by decide +kernel
theorem dX2_reduce_38 : decode cX2_reduce 38 = .ok (.iload 8, 2) := by decide +kernel
theorem dX2_reduce_40 : decode cX2_reduce 40 = .ok (.laload, 1) := by decide +kernel
theorem dX2_reduce_41 : decode cX2_reduce 41 = .ok (.lload 4, 2) := by decide +kernel
theorem dX2_reduce_43 : decode cX2_reduce 43 = .ok (.lmul, 1) := by decide +kernel
theorem dX2_reduce_44 : decode cX2_reduce 44 = .ok (.lsub, 1) := by decide +kernel
theorem dX2_reduce_45 : decode cX2_reduce 45 = .ok (.lastore, 1) := by decide +kernel
theorem dX2_reduce_46 : decode cX2_reduce 46 = .ok (.iinc 8 1, 3) := by decide +kernel
theorem dX2_reduce_49 : decode cX2_reduce 49 = .ok (.goto (-28), 3) := by decide +kernel
theorem dX2_reduce_52 : decode cX2_reduce 52 = .ok (.return_, 1) := by decide +kernel
theorem dX3_init_0 : decode cX3_init 0 = .ok (.aload_n 0, 1) := by decide +kernel
theorem dX3_init_1 : decode cX3_init 1 = .ok (.invokespecial 3, 3) := by decide +kernel
theorem dX3_init_4 : decode cX3_init 4 = .ok (.aload_n 0, 1) := by decide +kernel
theorem dX3_init_5 : decode cX3_init 5 = .ok (.iconst 1, 1) := by decide +kernel
theorem dX3_init_6 : decode cX3_init 6 = .ok (.putfield 9, 3) := by decide +kernel
theorem dX3_init_9 : decode cX3_init 9 = .ok (.aload_n 0, 1) := by decide +kernel
theorem dX3_init_10 : decode cX3_init 10 = .ok (.iconst 0, 1) := by decide +kernel
theorem dX3_init_11 : decode cX3_init 11 = .ok (.putfield 15, 3) := by decide +kernel
theorem dX3_init_14 : decode cX3_init 14 = .ok (.aload_n 0, 1) := by decide +kernel
theorem dX3_init_15 : decode cX3_init 15 = .ok (.iconst 0, 1) := by decide +kernel
theorem dX3_init_16 : decode cX3_init 16 = .ok (.putfield 18, 3) := by decide +kernel
theorem dX3_init_19 : decode cX3_init 19 = .ok (.aload_n 0, 1) := by decide +kernel
theorem dX3_init_20 : decode cX3_init 20 = .ok (.bipush 8, 2) := by decide +kernel
theorem dX3_init_22 : decode cX3_init 22 = .ok (.newarray .int, 2) := by decide +kernel
theorem dX3_init_24 : decode cX3_init 24 = .ok (.putfield 21, 3) := by decide +kernel
theorem dX3_init_27 : decode cX3_init 27 = .ok (.aload_n 0, 1) := by decide +kernel
theorem dX3_init_28 : decode cX3_init 28 = .ok (.bipush 8, 2) := by decide +kernel
theorem dX3_init_30 : decode cX3_init 30 = .ok (.newarray .int, 2) := by decide +kernel
theorem dX3_init_32 : decode cX3_init 32 = .ok (.putfield 25, 3) := by decide +kernel
theorem dX3_init_35 : decode cX3_init 35 = .ok (.return_, 1) := by decide +kernel
theorem dX3_copy_0 : decode cX3_copy 0 = .ok (.aload_n 0, 1) := by decide +kernel
theorem dX3_copy_1 : decode cX3_copy 1 = .ok (.aload_n 1, 1) := by decide +kernel
theorem dX3_copy_2 : decode cX3_copy 2 = .ok (.getfield 9, 3) := by decide +kernel
theorem dX3_copy_5 : decode cX3_copy 5 = .ok (.putfield 9, 3) := by decide +kernel
theorem dX3_copy_8 : decode cX3_copy 8 = .ok (.aload_n 0, 1) := by decide +kernel
theorem dX3_copy_9 : decode cX3_copy 9 = .ok (.aload_n 1, 1) := by decide +kernel
theorem dX3_copy_10 : decode cX3_copy 10 = .ok (.getfield 15, 3) := by decide +kernel
theorem dX3_copy_13 : decode cX3_copy 13 = .ok (.putfield 15, 3) := by decide +kernel
theorem dX3_copy_16 : decode cX3_copy 16 = .ok (.aload_n 0, 1) := by decide +kernel
theorem dX3_copy_17 : decode cX3_copy 17 = .ok (.aload_n 1, 1) := by decide +kernel
theorem dX3_copy_18 : decode cX3_copy 18 = .ok (.getfield 18, 3) := by decide +kernel
theorem dX3_copy_21 : decode cX3_copy 21 = .ok (.putfield 18, 3) := by decide +kernel
theorem dX3_copy_24 : decode cX3_copy 24 = .ok (.aload_n 1, 1) := by decide +kernel
theorem dX3_copy_25 : decode cX3_copy 25 = .ok (.getfield 21, 3) := by decide +kernel
theorem dX3_copy_28 : decode cX3_copy 28 = .ok (.iconst 0, 1) := by decide +kernel
theorem dX3_copy_29 : decode cX3_copy 29 = .ok (.aload_n 0, 1) := by decide +kernel
theorem dX3_copy_30 : decode cX3_copy 30 = .ok (.getfield 21, 3) := by decide +kernel
theorem dX3_copy_33 : decode cX3_copy 33 = .ok (.iconst 0, 1) := by decide +kernel
theorem dX3_copy_34 : decode cX3_copy 34 = .ok (.bipush 8, 2) := by decide +kernel
theorem dX3_copy_36 : decode cX3_copy 36 = .ok (.invokestatic 28, 3) := by decide +kernel
theorem dX3_copy_39 : decode cX3_copy 39 = .ok (.aload_n 1, 1) := by decide +kernel
theorem dX3_copy_40 : decode cX3_copy 40 = .ok (.getfield 25, 3) := by decide +kernel
theorem dX3_copy_43 : decode cX3_copy 43 = .ok (.iconst 0, 1) := by decide +kernel
theorem dX3_copy_44 : decode cX3_copy 44 = .ok (.aload_n 0, 1) := by decide +kernel
theorem dX3_copy_45 : decode cX3_copy 45 = .ok (.getfield 25, 3) := by decide +kernel
theorem dX3_copy_48 : decode cX3_copy 48 = .ok (.iconst 0, 1) := by decide +kernel
theorem dX3_copy_49 : decode cX3_copy 49 = .ok (.bipush 8, 2) := by decide +kernel
theorem dX3_copy_51 : decode cX3_copy 51 = .ok (.invokestatic 28, 3) := by decide +kernel
theorem dX3_copy_54 : decode cX3_copy 54 = .ok (.return_, 1) := by decide +kernel
theorem dX3_takeFrom_0 : decode cX3_takeFrom 0 = .ok (.aload_n 0, 1) := by decide +kernel
theorem dX3_takeFrom_1 : decode cX3_takeFrom 1 = .ok (.aload_n 1, 1) := by decide +kernel
theorem dX3_takeFrom_2 : decode cX3_takeFrom 2 = .ok (.invokevirtual 34, 3) := by decide +kernel
theorem dX3_takeFrom_5 : decode cX3_takeFrom 5 = .ok (.putfield 9, 3) := by decide +kernel
theorem dX3_takeFrom_8 : decode cX3_takeFrom 8 = .ok (.aload_n 0, 1) := by decide +kernel
theorem dX3_takeFrom_9 : decode cX3_takeFrom 9 = .ok (.aload_n 1, 1) := by decide +kernel
theorem dX3_takeFrom_10 : decode cX3_takeFrom 10 = .ok (.invokevirtual 40, 3) := by decide +kernel
theorem dX3_takeFrom_13 : decode cX3_takeFrom 13 = .ok (.putfield 15, 3) := by decide +kernel
theorem dX3_takeFrom_16 : decode cX3_takeFrom 16 = .ok (.aload_n 0, 1) := by decide +kernel
theorem dX3_takeFrom_17 : decode cX3_takeFrom 17 = .ok (.aload_n 1, 1) := by decide +kernel
theorem dX3_takeFrom_18 : decode cX3_takeFrom 18 = .ok (.invokevirtual 43, 3) := by decide +kernel
theorem dX3_takeFrom_21 : decode cX3_takeFrom 21 = .ok (.bipush 8, 2) := by decide +kernel
theorem dX3_takeFrom_23 : decode cX3_takeFrom 23 = .ok (.invokestatic 46, 3) := by decide +kernel
theorem dX3_takeFrom_26 : decode cX3_takeFrom 26 = .ok (.putfield 18, 3) := by decide +kernel
theorem dX3_takeFrom_29 : decode cX3_takeFrom 29 = .ok (.iconst 0, 1) := by decide +kernel
theorem dX3_takeFrom_30 : decode cX3_takeFrom 30 = .ok (.istore_n 2, 1) := by decide +kernel
theorem dX3_takeFrom_31 : decode cX3_takeFrom 31 = .ok (.iload_n 2, 1) := by decide +kernel
theorem dX3_takeFrom_32 : decode cX3_takeFrom 32 = .ok (.aload_n 0, 1) := by decide +kernel
theorem dX3_takeFrom_33 : decode cX3_takeFrom 33 = .ok (.getfield 18, 3) := by decide +kernel
theorem dX3_takeFrom_36 : decode cX3_takeFrom 36 = .ok (.if_icmp .ge 31, 3) := by decide +kernel
theorem dX3_takeFrom_39 : decode cX3_takeFrom 39 = .ok (.aload_n 0, 1) := by decide +kernel
theorem dX3_takeFrom_40 : decode cX3_takeFrom 40 = .ok (.getfield 21, 3) := by decide +kernel
theorem dX3_takeFrom_43 : decode cX3_takeFrom 43 = .ok (.iload_n 2, 1) := by decide +kernel
theorem dX3_takeFrom_44 : decode cX3_takeFrom 44 = .ok (.aload_n 1, 1) := by decide +kernel
theorem dX3_takeFrom_45 : decode cX3_takeFrom 45 = .ok (.iload_n 2, 1) := by decide +kernel
theorem dX3_takeFrom_46 : decode cX3_takeFrom 46 = .ok (.invokevirtual 52, 3) := by decide +kernel
theorem dX3_takeFrom_49 : decode cX3_takeFrom 49 = .ok (.iastore, 1) := by decide +kernel
theorem dX3_takeFrom_50 : decode cX3_takeFrom 50 = .ok (.aload_n 0, 1) := by decide +kernel
theorem dX3_takeFrom_51 : decode cX3_takeFrom 51 = .ok (.getfield 25, 3) := by decide +kernel
theorem dX3_takeFrom_54 : decode cX3_takeFrom 54 = .ok (.iload_n 2, 1) := by decide +kernel
theorem dX3_takeFrom_55 : decode cX3_takeFrom 55 = .ok (.aload_n 1, 1) := by decide +kernel
theorem dX3_takeFrom_56 : decode cX3_takeFrom 56 = .ok (.iload_n 2, 1) := by decide +kernel
theorem dX3_takeFrom_57 : decode cX3_takeFrom 57 = .ok (.invokevirtual 56, 3) := by decide +kernel
theorem dX3_takeFrom_60 : decode cX3_takeFrom 60 = .ok (.iastore, 1) := by decide +kernel
theorem dX3_takeFrom_61 : decode cX3_takeFrom 61 = .ok (.iinc 2 1, 3) := by decide +kernel
theorem dX3_takeFrom_64 : decode cX3_takeFrom 64 = .ok (.goto (-33), 3) := by decide +kernel
theorem dX3_takeFrom_67 : decode cX3_takeFrom 67 = .ok (.return_, 1) := by decide +kernel
theorem dX3_has_0 : decode cX3_has 0 = .ok (.iload_n 1, 1) := by decide +kernel
theorem dX3_has_1 : decode cX3_has 1 = .ok (.ifCond .lt 15, 3) := by decide +kernel
theorem dX3_has_4 : decode cX3_has 4 = .ok (.iload_n 1, 1) := by decide +kernel
theorem dX3_has_5 : decode cX3_has 5 = .ok (.aload_n 0, 1) := by decide +kernel
theorem dX3_has_6 : decode cX3_has 6 = .ok (.getfield 18, 3) := by decide +kernel
theorem dX3_has_9 : decode cX3_has 9 = .ok (.if_icmp .ge 7, 3) := by decide +kernel
theorem dX3_has_12 : decode cX3_has 12 = .ok (.iconst 1, 1) := by decide +kernel
theorem dX3_has_13 : decode cX3_has 13 = .ok (.goto 4, 3) := by decide +kernel
theorem dX3_has_16 : decode cX3_has 16 = .ok (.iconst 0, 1) := by decide +kernel
theorem dX3_has_17 : decode cX3_has 17 = .ok (.ireturn, 1) := by decide +kernel
theorem dX3_unknowns_0 : decode cX3_unknowns 0 = .ok (.iload_n 1, 1) := by decide +kernel
theorem dX3_unknowns_1 : decode cX3_unknowns 1 = .ok (.ifCond .eq 12, 3) := by decide +kernel
theorem dX3_unknowns_4 : decode cX3_unknowns 4 = .ok (.aload_n 0, 1) := by decide +kernel
theorem dX3_unknowns_5 : decode cX3_unknowns 5 = .ok (.getfield 9, 3) := by decide +kernel
theorem dX3_unknowns_8 : decode cX3_unknowns 8 = .ok (.iconst 1, 1) := by decide +kernel
theorem dX3_unknowns_9 : decode cX3_unknowns 9 = .ok (.iadd, 1) := by decide +kernel
theorem dX3_unknowns_10 : decode cX3_unknowns 10 = .ok (.goto 7, 3) := by decide +kernel
theorem dX3_unknowns_13 : decode cX3_unknowns 13 = .ok (.aload_n 0, 1) := by decide +kernel
theorem dX3_unknowns_14 : decode cX3_unknowns 14 = .ok (.getfield 9, 3) := by decide +kernel
theorem dX3_unknowns_17 : decode cX3_unknowns 17 = .ok (.ireturn, 1) := by decide +kernel
theorem dX3_hasUnknown_0 : decode cX3_hasUnknown 0 = .ok (.iload_n 1, 1) := by decide +kernel
theorem dX3_hasUnknown_1 : decode cX3_hasUnknown 1 = .ok (.ifCond .lt 16, 3) := by decide +kernel
theorem dX3_hasUnknown_4 : decode cX3_hasUnknown 4 = .ok (.iload_n 1, 1) := by decide +kernel
theorem dX3_hasUnknown_5 : decode cX3_hasUnknown 5 = .ok (.aload_n 0, 1) := by decide +kernel
theorem dX3_hasUnknown_6 : decode cX3_hasUnknown 6 = .ok (.iload_n 2, 1) := by decide +kernel
theorem dX3_hasUnknown_7 : decode cX3_hasUnknown 7 = .ok (.invokevirtual 59, 3) := by decide +kernel
theorem dX3_hasUnknown_10 : decode cX3_hasUnknown 10 = .ok (.if_icmp .ge 7, 3) := by decide +kernel
theorem dX3_hasUnknown_13 : decode cX3_hasUnknown 13 = .ok (.iconst 1, 1) := by decide +kernel
theorem dX3_hasUnknown_14 : decode cX3_hasUnknown 14 = .ok (.goto 4, 3) := by decide +kernel
theorem dX3_hasUnknown_17 : decode cX3_hasUnknown 17 = .ok (.iconst 0, 1) := by decide +kernel
theorem dX3_hasUnknown_18 : decode cX3_hasUnknown 18 = .ok (.ireturn, 1) := by decide +kernel
theorem dX3_append_0 : decode cX3_append 0 = .ok (.aload_n 0, 1) := by decide +kernel
theorem dX3_append_1 : decode cX3_append 1 = .ok (.getfield 18, 3) := by decide +kernel
theorem dX3_append_4 : decode cX3_append 4 = .ok (.bipush 8, 2) := by decide +kernel
theorem dX3_append_6 : decode cX3_append 6 = .ok (.if_icmp .ge 33, 3) := by decide +kernel
theorem dX3_append_9 : decode cX3_append 9 = .ok (.aload_n 0, 1) := by decide +kernel
theorem dX3_append_10 : decode cX3_append 10 = .ok (.getfield 21, 3) := by decide +kernel
theorem dX3_append_13 : decode cX3_append 13 = .ok (.aload_n 0, 1) := by decide +kernel
theorem dX3_append_14 : decode cX3_append 14 = .ok (.getfield 18, 3) := by decide +kernel
theorem dX3_append_17 : decode cX3_append 17 = .ok (.iload_n 1, 1) := by decide +kernel
theorem dX3_append_18 : decode cX3_append 18 = .ok (.iastore, 1) := by decide +kernel
theorem dX3_append_19 : decode cX3_append 19 = .ok (.aload_n 0, 1) := by decide +kernel
theorem dX3_append_20 : decode cX3_append 20 = .ok (.getfield 25, 3) := by decide +kernel
theorem dX3_append_23 : decode cX3_append 23 = .ok (.aload_n 0, 1) := by decide +kernel
theorem dX3_append_24 : decode cX3_append 24 = .ok (.getfield 18, 3) := by decide +kernel
theorem dX3_append_27 : decode cX3_append 27 = .ok (.iload_n 2, 1) := by decide +kernel
theorem dX3_append_28 : decode cX3_append 28 = .ok (.iastore, 1) := by decide +kernel
theorem dX3_append_29 : decode cX3_append 29 = .ok (.aload_n 0, 1) := by decide +kernel
theorem dX3_append_30 : decode cX3_append 30 = .ok (.dup, 1) := by decide +kernel
theorem dX3_append_31 : decode cX3_append 31 = .ok (.getfield 18, 3) := by decide +kernel
theorem dX3_append_34 : decode cX3_append 34 = .ok (.iconst 1, 1) := by decide +kernel
theorem dX3_append_35 : decode cX3_append 35 = .ok (.iadd, 1) := by decide +kernel
theorem dX3_append_36 : decode cX3_append 36 = .ok (.putfield 18, 3) := by decide +kernel
theorem dX3_append_39 : decode cX3_append 39 = .ok (.return_, 1) := by decide +kernel
theorem dX3_remove_0 : decode cX3_remove 0 = .ok (.iload_n 1, 1) := by decide +kernel
theorem dX3_remove_1 : decode cX3_remove 1 = .ok (.istore_n 2, 1) := by decide +kernel
theorem dX3_remove_2 : decode cX3_remove 2 = .ok (.iload_n 2, 1) := by decide +kernel
theorem dX3_remove_3 : decode cX3_remove 3 = .ok (.iconst 1, 1) := by decide +kernel
theorem dX3_remove_4 : decode cX3_remove 4 = .ok (.iadd, 1) := by decide +kernel
theorem dX3_remove_5 : decode cX3_remove 5 = .ok (.aload_n 0, 1) := by decide +kernel
theorem dX3_remove_6 : decode cX3_remove 6 = .ok (.getfield 18, 3) := by decide +kernel
theorem dX3_remove_9 : decode cX3_remove 9 = .ok (.if_icmp .ge 37, 3) := by decide +kernel
theorem dX3_remove_12 : decode cX3_remove 12 = .ok (.aload_n 0, 1) := by decide +kernel
theorem dX3_remove_13 : decode cX3_remove 13 = .ok (.getfield 21, 3) := by decide +kernel
theorem dX3_remove_16 : decode cX3_remove 16 = .ok (.iload_n 2, 1) := by decide +kernel
theorem dX3_remove_17 : decode cX3_remove 17 = .ok (.aload_n 0, 1) := by decide +kernel
theorem dX3_remove_18 : decode cX3_remove 18 = .ok (.getfield 21, 3) := by decide +kernel
theorem dX3_remove_21 : decode cX3_remove 21 = .ok (.iload_n 2, 1) := by decide +kernel
theorem dX3_remove_22 : decode cX3_remove 22 = .ok (.iconst 1, 1) := by decide +kernel
theorem dX3_remove_23 : decode cX3_remove 23 = .ok (.iadd, 1) := by decide +kernel
theorem dX3_remove_24 : decode cX3_remove 24 = .ok (.iaload, 1) := by decide +kernel
theorem dX3_remove_25 : decode cX3_remove 25 = .ok (.iastore, 1) := by decide +kernel
theorem dX3_remove_26 : decode cX3_remove 26 = .ok (.aload_n 0, 1) := by decide +kernel
theorem dX3_remove_27 : decode cX3_remove 27 = .ok (.getfield 25, 3) := by decide +kernel
theorem dX3_remove_30 : decode cX3_remove 30 = .ok (.iload_n 2, 1) := by decide +kernel
theorem dX3_remove_31 : decode cX3_remove 31 = .ok (.aload_n 0, 1) := by decide +kernel
theorem dX3_remove_32 : decode cX3_remove 32 = .ok (.getfield 25, 3) := by decide +kernel
theorem dX3_remove_35 : decode cX3_remove 35 = .ok (.iload_n 2, 1) := by decide +kernel
theorem dX3_remove_36 : decode cX3_remove 36 = .ok (.iconst 1, 1) := by decide +kernel
theorem dX3_remove_37 : decode cX3_remove 37 = .ok (.iadd, 1) := by decide +kernel
theorem dX3_remove_38 : decode cX3_remove 38 = .ok (.iaload, 1) := by decide +kernel
theorem dX3_remove_39 : decode cX3_remove 39 = .ok (.iastore, 1) := by decide +kernel
theorem dX3_remove_40 : decode cX3_remove 40 = .ok (.iinc 2 1, 3) := by decide +kernel
theorem dX3_remove_43 : decode cX3_remove 43 = .ok (.goto (-41), 3) := by decide +kernel
theorem dX3_remove_46 : decode cX3_remove 46 = .ok (.aload_n 0, 1) := by decide +kernel
theorem dX3_remove_47 : decode cX3_remove 47 = .ok (.dup, 1) := by decide +kernel
theorem dX3_remove_48 : decode cX3_remove 48 = .ok (.getfield 18, 3) := by decide +kernel
theorem dX3_remove_51 : decode cX3_remove 51 = .ok (.iconst 1, 1) := by decide +kernel
theorem dX3_remove_52 : decode cX3_remove 52 = .ok (.isub, 1) := by decide +kernel
theorem dX3_remove_53 : decode cX3_remove 53 = .ok (.putfield 18, 3) := by decide +kernel
theorem dX3_remove_56 : decode cX3_remove 56 = .ok (.return_, 1) := by decide +kernel
theorem dX3_exchange_0 : decode cX3_exchange 0 = .ok (.aload_n 0, 1) := by decide +kernel
theorem dX3_exchange_1 : decode cX3_exchange 1 = .ok (.getfield 21, 3) := by decide +kernel
theorem dX3_exchange_4 : decode cX3_exchange 4 = .ok (.iload_n 1, 1) := by decide +kernel
theorem dX3_exchange_5 : decode cX3_exchange 5 = .ok (.iaload, 1) := by decide +kernel
theorem dX3_exchange_6 : decode cX3_exchange 6 = .ok (.istore_n 3, 1) := by decide +kernel
theorem dX3_exchange_7 : decode cX3_exchange 7 = .ok (.aload_n 0, 1) := by decide +kernel
theorem dX3_exchange_8 : decode cX3_exchange 8 = .ok (.getfield 25, 3) := by decide +kernel
theorem dX3_exchange_11 : decode cX3_exchange 11 = .ok (.iload_n 1, 1) := by decide +kernel
theorem dX3_exchange_12 : decode cX3_exchange 12 = .ok (.iaload, 1) := by decide +kernel
theorem dX3_exchange_13 : decode cX3_exchange 13 = .ok (.istore 4, 2) := by decide +kernel
theorem dX3_exchange_15 : decode cX3_exchange 15 = .ok (.aload_n 0, 1) := by decide +kernel
theorem dX3_exchange_16 : decode cX3_exchange 16 = .ok (.getfield 21, 3) := by decide +kernel
theorem dX3_exchange_19 : decode cX3_exchange 19 = .ok (.iload_n 1, 1) := by decide +kernel
theorem dX3_exchange_20 : decode cX3_exchange 20 = .ok (.aload_n 0, 1) := by decide +kernel
theorem dX3_exchange_21 : decode cX3_exchange 21 = .ok (.getfield 21, 3) := by decide +kernel
theorem dX3_exchange_24 : decode cX3_exchange 24 = .ok (.iload_n 2, 1) := by decide +kernel
theorem dX3_exchange_25 : decode cX3_exchange 25 = .ok (.iaload, 1) := by decide +kernel
theorem dX3_exchange_26 : decode cX3_exchange 26 = .ok (.iastore, 1) := by decide +kernel
theorem dX3_exchange_27 : decode cX3_exchange 27 = .ok (.aload_n 0, 1) := by decide +kernel
theorem dX3_exchange_28 : decode cX3_exchange 28 = .ok (.getfield 25, 3) := by decide +kernel
theorem dX3_exchange_31 : decode cX3_exchange 31 = .ok (.iload_n 1, 1) := by decide +kernel
theorem dX3_exchange_32 : decode cX3_exchange 32 = .ok (.aload_n 0, 1) := by decide +kernel
theorem dX3_exchange_33 : decode cX3_exchange 33 = .ok (.getfield 25, 3) := by decide +kernel
theorem dX3_exchange_36 : decode cX3_exchange 36 = .ok (.iload_n 2, 1) := by decide +kernel
theorem dX3_exchange_37 : decode cX3_exchange 37 = .ok (.iaload, 1) := by decide +kernel
theorem dX3_exchange_38 : decode cX3_exchange 38 = .ok (.iastore, 1) := by decide +kernel
theorem dX3_exchange_39 : decode cX3_exchange 39 = .ok (.aload_n 0, 1) := by decide +kernel
theorem dX3_exchange_40 : decode cX3_exchange 40 = .ok (.getfield 21, 3) := by decide +kernel
theorem dX3_exchange_43 : decode cX3_exchange 43 = .ok (.iload_n 2, 1) := by decide +kernel
theorem dX3_exchange_44 : decode cX3_exchange 44 = .ok (.iload_n 3, 1) := by decide +kernel
theorem dX3_exchange_45 : decode cX3_exchange 45 = .ok (.iastore, 1) := by decide +kernel
theorem dX3_exchange_46 : decode cX3_exchange 46 = .ok (.aload_n 0, 1) := by decide +kernel
theorem dX3_exchange_47 : decode cX3_exchange 47 = .ok (.getfield 25, 3) := by decide +kernel
theorem dX3_exchange_50 : decode cX3_exchange 50 = .ok (.iload_n 2, 1) := by decide +kernel
theorem dX3_exchange_51 : decode cX3_exchange 51 = .ok (.iload 4, 2) := by decide +kernel
theorem dX3_exchange_53 : decode cX3_exchange 53 = .ok (.iastore, 1) := by decide +kernel
theorem dX3_exchange_54 : decode cX3_exchange 54 = .ok (.return_, 1) := by decide +kernel
theorem dX3_layOut_0 : decode cX3_layOut 0 = .ok (.aload_n 0, 1) := by decide +kernel
theorem dX3_layOut_1 : decode cX3_layOut 1 = .ok (.getfield 21, 3) := by decide +kernel
theorem dX3_layOut_4 : decode cX3_layOut 4 = .ok (.iload_n 1, 1) := by decide +kernel
theorem dX3_layOut_5 : decode cX3_layOut 5 = .ok (.iaload, 1) := by decide +kernel
theorem dX3_layOut_6 : decode cX3_layOut 6 = .ok (.istore 4, 2) := by decide +kernel
theorem dX3_layOut_8 : decode cX3_layOut 8 = .ok (.aload_n 0, 1) := by decide +kernel
theorem dX3_layOut_9 : decode cX3_layOut 9 = .ok (.getfield 9, 3) := by decide +kernel
theorem dX3_layOut_12 : decode cX3_layOut 12 = .ok (.iconst 1, 1) := by decide +kernel
theorem dX3_layOut_13 : decode cX3_layOut 13 = .ok (.isub, 1) := by decide +kernel
theorem dX3_layOut_14 : decode cX3_layOut 14 = .ok (.istore 5, 2) := by decide +kernel
theorem dX3_layOut_16 : decode cX3_layOut 16 = .ok (.iload 5, 2) := by decide +kernel
theorem dX3_layOut_18 : decode cX3_layOut 18 = .ok (.ifCond .lt 29, 3) := by decide +kernel
theorem dX3_layOut_21 : decode cX3_layOut 21 = .ok (.aload_n 3, 1) := by decide +kernel
theorem dX3_layOut_22 : decode cX3_layOut 22 = .ok (.iload 5, 2) := by decide +kernel
theorem dX3_layOut_24 : decode cX3_layOut 24 = .ok (.iload 4, 2) := by decide +kernel
theorem dX3_layOut_26 : decode cX3_layOut 26 = .ok (.bipush 10, 2) := by decide +kernel
theorem dX3_layOut_28 : decode cX3_layOut 28 = .ok (.irem, 1) := by decide +kernel
theorem dX3_layOut_29 : decode cX3_layOut 29 = .ok (.invokestatic 63, 3) := by decide +kernel
theorem dX3_layOut_32 : decode cX3_layOut 32 = .ok (.i2l, 1) := by decide +kernel
theorem dX3_layOut_33 : decode cX3_layOut 33 = .ok (.lastore, 1) := by decide +kernel
theorem dX3_layOut_34 : decode cX3_layOut 34 = .ok (.iload 4, 2) := by decide +kernel
theorem dX3_layOut_36 : decode cX3_layOut 36 = .ok (.bipush 10, 2) := by decide +kernel
theorem dX3_layOut_38 : decode cX3_layOut 38 = .ok (.idiv, 1) := by decide +kernel
theorem dX3_layOut_39 : decode cX3_layOut 39 = .ok (.istore 4, 2) := by decide +kernel
theorem dX3_layOut_41 : decode cX3_layOut 41 = .ok (.iinc 5 (-1), 3) := by decide +kernel
theorem dX3_layOut_44 : decode cX3_layOut 44 = .ok (.goto (-28), 3) := by decide +kernel
theorem dX3_layOut_47 : decode cX3_layOut 47 = .ok (.iload_n 2, 1) := by decide +kernel
theorem dX3_layOut_48 : decode cX3_layOut 48 = .ok (.ifCond .eq 11, 3) := by decide +kernel
theorem dX3_layOut_51 : decode cX3_layOut 51 = .ok (.aload_n 3, 1) := by decide +kernel
theorem dX3_layOut_52 : decode cX3_layOut 52 = .ok (.aload_n 0, 1) := by decide +kernel
theorem dX3_layOut_53 : decode cX3_layOut 53 = .ok (.getfield 9, 3) := by decide +kernel
theorem dX3_layOut_56 : decode cX3_layOut 56 = .ok (.iload_n 1, 1) := by decide +kernel
theorem dX3_layOut_57 : decode cX3_layOut 57 = .ok (.i2l, 1) := by decide +kernel
theorem dX3_layOut_58 : decode cX3_layOut 58 = .ok (.lastore, 1) := by decide +kernel
theorem dX3_layOut_59 : decode cX3_layOut 59 = .ok (.aload_n 3, 1) := by decide +kernel
theorem dX3_layOut_60 : decode cX3_layOut 60 = .ok (.aload_n 0, 1) := by decide +kernel
theorem dX3_layOut_61 : decode cX3_layOut 61 = .ok (.iload_n 2, 1) := by decide +kernel
theorem dX3_layOut_62 : decode cX3_layOut 62 = .ok (.invokevirtual 59, 3) := by decide +kernel
theorem dX3_layOut_65 : decode cX3_layOut 65 = .ok (.aload_n 0, 1) := by decide +kernel
theorem dX3_layOut_66 : decode cX3_layOut 66 = .ok (.getfield 25, 3) := by decide +kernel
theorem dX3_layOut_69 : decode cX3_layOut 69 = .ok (.iload_n 1, 1) := by decide +kernel
theorem dX3_layOut_70 : decode cX3_layOut 70 = .ok (.iaload, 1) := by decide +kernel
theorem dX3_layOut_71 : decode cX3_layOut 71 = .ok (.iload 4, 2) := by decide +kernel
theorem dX3_layOut_73 : decode cX3_layOut 73 = .ok (.invokestatic 63, 3) := by decide +kernel
theorem dX3_layOut_76 : decode cX3_layOut 76 = .ok (.aload_n 0, 1) := by decide +kernel
theorem dX3_layOut_77 : decode cX3_layOut 77 = .ok (.getfield 15, 3) := by decide +kernel
theorem dX3_layOut_80 : decode cX3_layOut 80 = .ok (.imul, 1) := by decide +kernel
theorem dX3_layOut_81 : decode cX3_layOut 81 = .ok (.isub, 1) := by decide +kernel
theorem dX3_layOut_82 : decode cX3_layOut 82 = .ok (.i2l, 1) := by decide +kernel
theorem dX3_layOut_83 : decode cX3_layOut 83 = .ok (.lastore, 1) := by decide +kernel
theorem dX3_layOut_84 : decode cX3_layOut 84 = .ok (.return_, 1) := by decide +kernel
theorem dX3_signOf_0 : decode cX3_signOf 0 = .ok (.iload_n 0, 1) := by decide +kernel
theorem dX3_signOf_1 : decode cX3_signOf 1 = .ok (.iconst 2, 1) := by decide +kernel
theorem dX3_signOf_2 : decode cX3_signOf 2 = .ok (.if_icmp .ne 7, 3) := by decide +kernel
theorem dX3_signOf_5 : decode cX3_signOf 5 = .ok (.iconst (-1), 1) := by decide +kernel
theorem dX3_signOf_6 : decode cX3_signOf 6 = .ok (.goto 4, 3) := by decide +kernel
theorem dX3_signOf_9 : decode cX3_signOf 9 = .ok (.iload_n 0, 1) := by decide +kernel
theorem dX3_signOf_10 : decode cX3_signOf 10 = .ok (.ireturn, 1) := by decide +kernel
theorem dX4_init_0 : decode cX4_init 0 = .ok (.aload_n 0, 1) := by decide +kernel
theorem dX4_init_1 : decode cX4_init 1 = .ok (.invokespecial 3, 3) := by decide +kernel
theorem dX4_init_4 : decode cX4_init 4 = .ok (.aload_n 0, 1) := by decide +kernel
theorem dX4_init_5 : decode cX4_init 5 = .ok (.bipush 90, 2) := by decide +kernel
theorem dX4_init_7 : decode cX4_init 7 = .ok (.newarray .int, 2) := by decide +kernel
theorem dX4_init_9 : decode cX4_init 9 = .ok (.putfield 9, 3) := by decide +kernel
theorem dX4_init_12 : decode cX4_init 12 = .ok (.aload_n 0, 1) := by decide +kernel
theorem dX4_init_13 : decode cX4_init 13 = .ok (.iconst 0, 1) := by decide +kernel
theorem dX4_init_14 : decode cX4_init 14 = .ok (.putfield 15, 3) := by decide +kernel
theorem dX4_init_17 : decode cX4_init 17 = .ok (.return_, 1) := by decide +kernel
theorem dX4_faultPlace_0 : decode cX4_faultPlace 0 = .ok (.iconst 0, 1) := by decide +kernel
theorem dX4_faultPlace_1 : decode cX4_faultPlace 1 = .ok (.istore_n 1, 1) := by decide +kernel
theorem dX4_faultPlace_2 : decode cX4_faultPlace 2 = .ok (.iload_n 1, 1) := by decide +kernel
theorem dX4_faultPlace_3 : decode cX4_faultPlace 3 = .ok (.aload_n 0, 1) := by decide +kernel
theorem dX4_faultPlace_4 : decode cX4_faultPlace 4 = .ok (.getfield 15, 3) := by decide +kernel
theorem dX4_faultPlace_7 : decode cX4_faultPlace 7 = .ok (.if_icmp .ge 19, 3) := by decide +kernel
theorem dX4_faultPlace_10 : decode cX4_faultPlace 10 = .ok (.aload_n 0, 1) := by decide +kernel
theorem dX4_faultPlace_11 : decode cX4_faultPlace 11 = .ok (.iload_n 1, 1) := by decide +kernel
theorem dX4_faultPlace_12 : decode cX4_faultPlace 12 = .ok (.invokevirtual 19, 3) := by decide +kernel
theorem dX4_faultPlace_15 : decode cX4_faultPlace 15 = .ok (.ifCond .ne 5, 3) := by decide +kernel
theorem dX4_faultPlace_18 : decode cX4_faultPlace 18 = .ok (.iload_n 1, 1) := by decide +kernel
theorem dX4_faultPlace_19 : decode cX4_faultPlace 19 = .ok (.ireturn, 1) := by decide +kernel
theorem dX4_faultPlace_20 : decode cX4_faultPlace 20 = .ok (.iinc 1 1, 3) := by decide +kernel
theorem dX4_faultPlace_23 : decode cX4_faultPlace 23 = .ok (.goto (-21), 3) := by decide +kernel
theorem dX4_faultPlace_26 : decode cX4_faultPlace 26 = .ok (.aload_n 0, 1) := by decide +kernel
theorem dX4_faultPlace_27 : decode cX4_faultPlace 27 = .ok (.getfield 15, 3) := by decide +kernel
theorem dX4_faultPlace_30 : decode cX4_faultPlace 30 = .ok (.iconst 4, 1) := by decide +kernel
theorem dX4_faultPlace_31 : decode cX4_faultPlace 31 = .ok (.if_icmp .lt 21, 3) := by decide +kernel
theorem dX4_faultPlace_34 : decode cX4_faultPlace 34 = .ok (.aload_n 0, 1) := by decide +kernel
theorem dX4_faultPlace_35 : decode cX4_faultPlace 35 = .ok (.getfield 15, 3) := by decide +kernel
theorem dX4_faultPlace_38 : decode cX4_faultPlace 38 = .ok (.iconst 4, 1) := by decide +kernel
theorem dX4_faultPlace_39 : decode cX4_faultPlace 39 = .ok (.isub, 1) := by decide +kernel
theorem dX4_faultPlace_40 : decode cX4_faultPlace 40 = .ok (.aload_n 0, 1) := by decide +kernel
theorem dX4_faultPlace_41 : decode cX4_faultPlace 41 = .ok (.invokevirtual 23, 3) := by decide +kernel
theorem dX4_faultPlace_44 : decode cX4_faultPlace 44 = .ok (.irem, 1) := by decide +kernel
theorem dX4_faultPlace_45 : decode cX4_faultPlace 45 = .ok (.ifCond .ne 7, 3) := by decide +kernel
theorem dX4_faultPlace_48 : decode cX4_faultPlace 48 = .ok (.iconst 1, 1) := by decide +kernel
theorem dX4_faultPlace_49 : decode cX4_faultPlace 49 = .ok (.goto 4, 3) := by decide +kernel
theorem dX4_faultPlace_52 : decode cX4_faultPlace 52 = .ok (.iconst 0, 1) := by decide +kernel
theorem dX4_faultPlace_53 : decode cX4_faultPlace 53 = .ok (.istore_n 1, 1) := by decide +kernel
theorem dX4_faultPlace_54 : decode cX4_faultPlace 54 = .ok (.iload_n 1, 1) := by decide +kernel
theorem dX4_faultPlace_55 : decode cX4_faultPlace 55 = .ok (.ifCond .eq 8, 3) := by decide +kernel
theorem dX4_faultPlace_58 : decode cX4_faultPlace 58 = .ok (.bipush (-9), 2) := by decide +kernel
theorem dX4_faultPlace_60 : decode cX4_faultPlace 60 = .ok (.goto 7, 3) := by decide +kernel
theorem dX4_faultPlace_63 : decode cX4_faultPlace 63 = .ok (.aload_n 0, 1) := by decide +kernel
theorem dX4_faultPlace_64 : decode cX4_faultPlace 64 = .ok (.getfield 15, 3) := by decide +kernel
theorem dX4_faultPlace_67 : decode cX4_faultPlace 67 = .ok (.ireturn, 1) := by decide +kernel
theorem dX4_fits_0 : decode cX4_fits 0 = .ok (.aload_n 0, 1) := by decide +kernel
theorem dX4_fits_1 : decode cX4_fits 1 = .ok (.getfield 9, 3) := by decide +kernel
theorem dX4_fits_4 : decode cX4_fits 4 = .ok (.iload_n 1, 1) := by decide +kernel
theorem dX4_fits_5 : decode cX4_fits 5 = .ok (.iaload, 1) := by decide +kernel
theorem dX4_fits_6 : decode cX4_fits 6 = .ok (.istore_n 2, 1) := by decide +kernel
theorem dX4_fits_7 : decode cX4_fits 7 = .ok (.iload_n 1, 1) := by decide +kernel
theorem dX4_fits_8 : decode cX4_fits 8 = .ok (.ifCond .ne 15, 3) := by decide +kernel
theorem dX4_fits_11 : decode cX4_fits 11 = .ok (.iload_n 2, 1) := by decide +kernel
theorem dX4_fits_12 : decode cX4_fits 12 = .ok (.bipush 66, 2) := by decide +kernel
theorem dX4_fits_14 : decode cX4_fits 14 = .ok (.if_icmp .ne 7, 3) := by decide +kernel
theorem dX4_fits_17 : decode cX4_fits 17 = .ok (.iconst 1, 1) := by decide +kernel
theorem dX4_fits_18 : decode cX4_fits 18 = .ok (.goto 4, 3) := by decide +kernel
theorem dX4_fits_21 : decode cX4_fits 21 = .ok (.iconst 0, 1) := by decide +kernel
theorem dX4_fits_22 : decode cX4_fits 22 = .ok (.ireturn, 1) := by decide +kernel
theorem dX4_fits_23 : decode cX4_fits 23 = .ok (.iload_n 1, 1) := by decide +kernel
theorem dX4_fits_24 : decode cX4_fits 24 = .ok (.iconst 1, 1) := by decide +kernel
theorem dX4_fits_25 : decode cX4_fits 25 = .ok (.if_icmp .ne 21, 3) := by decide +kernel
theorem dX4_fits_28 : decode cX4_fits 28 = .ok (.iload_n 2, 1) := by decide +kernel
theorem dX4_fits_29 : decode cX4_fits 29 = .ok (.bipush 49, 2) := by decide +kernel
theorem dX4_fits_31 : decode cX4_fits 31 = .ok (.if_icmp .lt 13, 3) := by decide +kernel
theorem dX4_fits_34 : decode cX4_fits 34 = .ok (.iload_n 2, 1) := by decide +kernel
theorem dX4_fits_35 : decode cX4_fits 35 = .ok (.bipush 52, 2) := by decide +kernel
theorem dX4_fits_37 : decode cX4_fits 37 = .ok (.if_icmp .gt 7, 3) := by decide +kernel
theorem dX4_fits_40 : decode cX4_fits 40 = .ok (.iconst 1, 1) := by decide +kernel
theorem dX4_fits_41 : decode cX4_fits 41 = .ok (.goto 4, 3) := by decide +kernel
theorem dX4_fits_44 : decode cX4_fits 44 = .ok (.iconst 0, 1) := by decide +kernel
theorem dX4_fits_45 : decode cX4_fits 45 = .ok (.ireturn, 1) := by decide +kernel
theorem dX4_fits_46 : decode cX4_fits 46 = .ok (.iload_n 1, 1) := by decide +kernel
theorem dX4_fits_47 : decode cX4_fits 47 = .ok (.iconst 4, 1) := by decide +kernel
theorem dX4_fits_48 : decode cX4_fits 48 = .ok (.if_icmp .ge 8, 3) := by decide +kernel
theorem dX4_fits_51 : decode cX4_fits 51 = .ok (.iload_n 2, 1) := by decide +kernel
theorem dX4_fits_52 : decode cX4_fits 52 = .ok (.invokestatic 27, 3) := by decide +kernel
theorem dX4_fits_55 : decode cX4_fits 55 = .ok (.ireturn, 1) := by decide +kernel
theorem dX4_fits_56 : decode cX4_fits 56 = .ok (.iload_n 1, 1) := by decide +kernel
theorem dX4_fits_57 : decode cX4_fits 57 = .ok (.iconst 4, 1) := by decide +kernel
theorem dX4_fits_58 : decode cX4_fits 58 = .ok (.isub, 1) := by decide +kernel
theorem dX4_fits_59 : decode cX4_fits 59 = .ok (.istore_n 3, 1) := by decide +kernel
theorem dX4_fits_60 : decode cX4_fits 60 = .ok (.iload_n 3, 1) := by decide +kernel
theorem dX4_fits_61 : decode cX4_fits 61 = .ok (.aload_n 0, 1) := by decide +kernel
theorem dX4_fits_62 : decode cX4_fits 62 = .ok (.invokevirtual 23, 3) := by decide +kernel
theorem dX4_fits_65 : decode cX4_fits 65 = .ok (.irem, 1) := by decide +kernel
theorem dX4_fits_66 : decode cX4_fits 66 = .ok (.istore 4, 2) := by decide +kernel
theorem dX4_fits_68 : decode cX4_fits 68 = .ok (.iload 4, 2) := by decide +kernel
theorem dX4_fits_70 : decode cX4_fits 70 = .ok (.ifCond .ne 26, 3) := by decide +kernel
theorem dX4_fits_73 : decode cX4_fits 73 = .ok (.iload_n 2, 1) := by decide +kernel
theorem dX4_fits_74 : decode cX4_fits 74 = .ok (.bipush 119, 2) := by decide +kernel
theorem dX4_fits_76 : decode cX4_fits 76 = .ok (.if_icmp .ne 18, 3) := by decide +kernel
theorem dX4_fits_79 : decode cX4_fits 79 = .ok (.iload_n 3, 1) := by decide +kernel
theorem dX4_fits_80 : decode cX4_fits 80 = .ok (.aload_n 0, 1) := by decide +kernel
theorem dX4_fits_81 : decode cX4_fits 81 = .ok (.invokevirtual 23, 3) := by decide +kernel
theorem dX4_fits_84 : decode cX4_fits 84 = .ok (.idiv, 1) := by decide +kernel
theorem dX4_fits_85 : decode cX4_fits 85 = .ok (.bipush 8, 2) := by decide +kernel
theorem dX4_fits_87 : decode cX4_fits 87 = .ok (.if_icmp .ge 7, 3) := by decide +kernel
theorem dX4_fits_90 : decode cX4_fits 90 = .ok (.iconst 1, 1) := by decide +kernel
theorem dX4_fits_91 : decode cX4_fits 91 = .ok (.goto 4, 3) := by decide +kernel
theorem dX4_fits_94 : decode cX4_fits 94 = .ok (.iconst 0, 1) := by decide +kernel
theorem dX4_fits_95 : decode cX4_fits 95 = .ok (.ireturn, 1) := by decide +kernel
theorem dX4_fits_96 : decode cX4_fits 96 = .ok (.iload 4, 2) := by decide +kernel
theorem dX4_fits_98 : decode cX4_fits 98 = .ok (.aload_n 0, 1) := by decide +kernel
theorem dX4_fits_99 : decode cX4_fits 99 = .ok (.invokevirtual 30, 3) := by decide +kernel
theorem dX4_fits_102 : decode cX4_fits 102 = .ok (.iconst 1, 1) := by decide +kernel
theorem dX4_fits_103 : decode cX4_fits 103 = .ok (.iadd, 1) := by decide +kernel
theorem dX4_fits_104 : decode cX4_fits 104 = .ok (.if_icmp .gt 22, 3) := by decide +kernel
theorem dX4_fits_107 : decode cX4_fits 107 = .ok (.iload_n 2, 1) := by decide +kernel
theorem dX4_fits_108 : decode cX4_fits 108 = .ok (.bipush 48, 2) := by decide +kernel
theorem dX4_fits_110 : decode cX4_fits 110 = .ok (.if_icmp .eq 10, 3) := by decide +kernel
theorem dX4_fits_113 : decode cX4_fits 113 = .ok (.iload_n 2, 1) := by decide +kernel
theorem dX4_fits_114 : decode cX4_fits 114 = .ok (.invokestatic 33, 3) := by decide +kernel
theorem dX4_fits_117 : decode cX4_fits 117 = .ok (.ifCond .eq 7, 3) := by decide +kernel
theorem dX4_fits_120 : decode cX4_fits 120 = .ok (.iconst 1, 1) := by decide +kernel
theorem dX4_fits_121 : decode cX4_fits 121 = .ok (.goto 4, 3) := by decide +kernel
theorem dX4_fits_124 : decode cX4_fits 124 = .ok (.iconst 0, 1) := by decide +kernel
theorem dX4_fits_125 : decode cX4_fits 125 = .ok (.ireturn, 1) := by decide +kernel
theorem dX4_fits_126 : decode cX4_fits 126 = .ok (.iload 4, 2) := by decide +kernel
theorem dX4_fits_128 : decode cX4_fits 128 = .ok (.aload_n 0, 1) := by decide +kernel
theorem dX4_fits_129 : decode cX4_fits 129 = .ok (.invokevirtual 30, 3) := by decide +kernel
theorem dX4_fits_132 : decode cX4_fits 132 = .ok (.iconst 2, 1) := by decide +kernel
theorem dX4_fits_133 : decode cX4_fits 133 = .ok (.iadd, 1) := by decide +kernel
theorem dX4_fits_134 : decode cX4_fits 134 = .ok (.if_icmp .ne 10, 3) := by decide +kernel
theorem dX4_fits_137 : decode cX4_fits 137 = .ok (.iload_n 2, 1) := by decide +kernel
theorem dX4_fits_138 : decode cX4_fits 138 = .ok (.invokestatic 33, 3) := by decide +kernel
theorem dX4_fits_141 : decode cX4_fits 141 = .ok (.goto 7, 3) := by decide +kernel
theorem dX4_fits_144 : decode cX4_fits 144 = .ok (.iload_n 2, 1) := by decide +kernel
theorem dX4_fits_145 : decode cX4_fits 145 = .ok (.invokestatic 27, 3) := by decide +kernel
theorem dX4_fits_148 : decode cX4_fits 148 = .ok (.ireturn, 1) := by decide +kernel
theorem dX4_isFigure_0 : decode cX4_isFigure 0 = .ok (.iload_n 0, 1) := by decide +kernel
theorem dX4_isFigure_1 : decode cX4_isFigure 1 = .ok (.bipush 48, 2) := by decide +kernel
theorem dX4_isFigure_3 : decode cX4_isFigure 3 = .ok (.if_icmp .lt 13, 3) := by decide +kernel
theorem dX4_isFigure_6 : decode cX4_isFigure 6 = .ok (.iload_n 0, 1) := by decide +kernel
theorem dX4_isFigure_7 : decode cX4_isFigure 7 = .ok (.bipush 57, 2) := by decide +kernel
theorem dX4_isFigure_9 : decode cX4_isFigure 9 = .ok (.if_icmp .gt 7, 3) := by decide +kernel
theorem dX4_isFigure_12 : decode cX4_isFigure 12 = .ok (.iconst 1, 1) := by decide +kernel
theorem dX4_isFigure_13 : decode cX4_isFigure 13 = .ok (.goto 4, 3) := by decide +kernel
theorem dX4_isFigure_16 : decode cX4_isFigure 16 = .ok (.iconst 0, 1) := by decide +kernel
theorem dX4_isFigure_17 : decode cX4_isFigure 17 = .ok (.ireturn, 1) := by decide +kernel
theorem dX4_isSign_0 : decode cX4_isSign 0 = .ok (.iload_n 0, 1) := by decide +kernel
theorem dX4_isSign_1 : decode cX4_isSign 1 = .ok (.bipush 43, 2) := by decide +kernel
theorem dX4_isSign_3 : decode cX4_isSign 3 = .ok (.if_icmp .eq 9, 3) := by decide +kernel
theorem dX4_isSign_6 : decode cX4_isSign 6 = .ok (.iload_n 0, 1) := by decide +kernel
theorem dX4_isSign_7 : decode cX4_isSign 7 = .ok (.bipush 45, 2) := by decide +kernel
theorem dX4_isSign_9 : decode cX4_isSign 9 = .ok (.if_icmp .ne 7, 3) := by decide +kernel
theorem dX4_isSign_12 : decode cX4_isSign 12 = .ok (.iconst 1, 1) := by decide +kernel
theorem dX4_isSign_13 : decode cX4_isSign 13 = .ok (.goto 4, 3) := by decide +kernel
theorem dX4_isSign_16 : decode cX4_isSign 16 = .ok (.iconst 0, 1) := by decide +kernel
theorem dX4_isSign_17 : decode cX4_isSign 17 = .ok (.ireturn, 1) := by decide +kernel
theorem dX4_weightsTold_0 : decode cX4_weightsTold 0 = .ok (.aload_n 0, 1) := by decide +kernel
theorem dX4_weightsTold_1 : decode cX4_weightsTold 1 = .ok (.getfield 9, 3) := by decide +kernel
theorem dX4_weightsTold_4 : decode cX4_weightsTold 4 = .ok (.iconst 1, 1) := by decide +kernel
theorem dX4_weightsTold_5 : decode cX4_weightsTold 5 = .ok (.iaload, 1) := by decide +kernel
theorem dX4_weightsTold_6 : decode cX4_weightsTold 6 = .ok (.bipush 48, 2) := by decide +kernel
theorem dX4_weightsTold_8 : decode cX4_weightsTold 8 = .ok (.isub, 1) := by decide +kernel
theorem dX4_weightsTold_9 : decode cX4_weightsTold 9 = .ok (.istore_n 1, 1) := by decide +kernel
theorem dX4_weightsTold_10 : decode cX4_weightsTold 10 = .ok (.iload_n 1, 1) := by decide +kernel
theorem dX4_weightsTold_11 : decode cX4_weightsTold 11 = .ok (.iconst 1, 1) := by decide +kernel
theorem dX4_weightsTold_12 : decode cX4_weightsTold 12 = .ok (.if_icmp .lt 8, 3) := by decide +kernel
theorem dX4_weightsTold_15 : decode cX4_weightsTold 15 = .ok (.iload_n 1, 1) := by decide +kernel
theorem dX4_weightsTold_16 : decode cX4_weightsTold 16 = .ok (.iconst 4, 1) := by decide +kernel
theorem dX4_weightsTold_17 : decode cX4_weightsTold 17 = .ok (.if_icmp .le 7, 3) := by decide +kernel
theorem dX4_weightsTold_20 : decode cX4_weightsTold 20 = .ok (.iconst 1, 1) := by decide +kernel
theorem dX4_weightsTold_21 : decode cX4_weightsTold 21 = .ok (.goto 4, 3) := by decide +kernel
theorem dX4_weightsTold_24 : decode cX4_weightsTold 24 = .ok (.iload_n 1, 1) := by decide +kernel
theorem dX4_weightsTold_25 : decode cX4_weightsTold 25 = .ok (.ireturn, 1) := by decide +kernel
theorem dX4_lettersEach_0 : decode cX4_lettersEach 0 = .ok (.aload_n 0, 1) := by decide +kernel
theorem dX4_lettersEach_1 : decode cX4_lettersEach 1 = .ok (.invokevirtual 30, 3) := by decide +kernel
theorem dX4_lettersEach_4 : decode cX4_lettersEach 4 = .ok (.bipush 6, 2) := by decide +kernel
theorem dX4_lettersEach_6 : decode cX4_lettersEach 6 = .ok (.iadd, 1) := by decide +kernel
theorem dX4_lettersEach_7 : decode cX4_lettersEach 7 = .ok (.ireturn, 1) := by decide +kernel
theorem dX4_weighingsTold_0 : decode cX4_weighingsTold 0 = .ok (.aload_n 0, 1) := by decide +kernel
theorem dX4_weighingsTold_1 : decode cX4_weighingsTold 1 = .ok (.getfield 15, 3) := by decide +kernel
theorem dX4_weighingsTold_4 : decode cX4_weighingsTold 4 = .ok (.iconst 4, 1) := by decide +kernel
theorem dX4_weighingsTold_5 : decode cX4_weighingsTold 5 = .ok (.isub, 1) := by decide +kernel
theorem dX4_weighingsTold_6 : decode cX4_weighingsTold 6 = .ok (.aload_n 0, 1) := by decide +kernel
theorem dX4_weighingsTold_7 : decode cX4_weighingsTold 7 = .ok (.invokevirtual 23, 3) := by decide +kernel
theorem dX4_weighingsTold_10 : decode cX4_weighingsTold 10 = .ok (.idiv, 1) := by decide +kernel
theorem dX4_weighingsTold_11 : decode cX4_weighingsTold 11 = .ok (.ireturn, 1) := by decide +kernel
theorem dX4_masterTold_0 : decode cX4_masterTold 0 = .ok (.bipush 10, 2) := by decide +kernel
theorem dX4_masterTold_2 : decode cX4_masterTold 2 = .ok (.aload_n 0, 1) := by decide +kernel
theorem dX4_masterTold_3 : decode cX4_masterTold 3 = .ok (.iconst 2, 1) := by decide +kernel
theorem dX4_masterTold_4 : decode cX4_masterTold 4 = .ok (.invokevirtual 36, 3) := by decide +kernel
theorem dX4_masterTold_7 : decode cX4_masterTold 7 = .ok (.imul, 1) := by decide +kernel
theorem dX4_masterTold_8 : decode cX4_masterTold 8 = .ok (.aload_n 0, 1) := by decide +kernel
theorem dX4_masterTold_9 : decode cX4_masterTold 9 = .ok (.iconst 3, 1) := by decide +kernel
theorem dX4_masterTold_10 : decode cX4_masterTold 10 = .ok (.invokevirtual 36, 3) := by decide +kernel
theorem dX4_masterTold_13 : decode cX4_masterTold 13 = .ok (.iadd, 1) := by decide +kernel
theorem dX4_masterTold_14 : decode cX4_masterTold 14 = .ok (.ireturn, 1) := by decide +kernel
theorem dX4_codeTold_0 : decode cX4_codeTold 0 = .ok (.aload_n 0, 1) := by decide +kernel
theorem dX4_codeTold_1 : decode cX4_codeTold 1 = .ok (.iload_n 1, 1) := by decide +kernel
theorem dX4_codeTold_2 : decode cX4_codeTold 2 = .ok (.invokevirtual 40, 3) := by decide +kernel
theorem dX4_codeTold_5 : decode cX4_codeTold 5 = .ok (.iconst 1, 1) := by decide +kernel
theorem dX4_codeTold_6 : decode cX4_codeTold 6 = .ok (.iadd, 1) := by decide +kernel
theorem dX4_codeTold_7 : decode cX4_codeTold 7 = .ok (.istore_n 2, 1) := by decide +kernel
theorem dX4_codeTold_8 : decode cX4_codeTold 8 = .ok (.iconst 0, 1) := by decide +kernel
theorem dX4_codeTold_9 : decode cX4_codeTold 9 = .ok (.istore_n 3, 1) := by decide +kernel
theorem dX4_codeTold_10 : decode cX4_codeTold 10 = .ok (.iconst 0, 1) := by decide +kernel
theorem dX4_codeTold_11 : decode cX4_codeTold 11 = .ok (.istore 4, 2) := by decide +kernel
theorem dX4_codeTold_13 : decode cX4_codeTold 13 = .ok (.iload 4, 2) := by decide +kernel
theorem dX4_codeTold_15 : decode cX4_codeTold 15 = .ok (.aload_n 0, 1) := by decide +kernel
theorem dX4_codeTold_16 : decode cX4_codeTold 16 = .ok (.invokevirtual 30, 3) := by decide +kernel
theorem dX4_codeTold_19 : decode cX4_codeTold 19 = .ok (.if_icmp .gt 49, 3) := by decide +kernel
theorem dX4_codeTold_22 : decode cX4_codeTold 22 = .ok (.aload_n 0, 1) := by decide +kernel
theorem dX4_codeTold_23 : decode cX4_codeTold 23 = .ok (.getfield 9, 3) := by decide +kernel
theorem dX4_codeTold_26 : decode cX4_codeTold 26 = .ok (.iload_n 2, 1) := by decide +kernel
theorem dX4_codeTold_27 : decode cX4_codeTold 27 = .ok (.iload 4, 2) := by decide +kernel
theorem dX4_codeTold_29 : decode cX4_codeTold 29 = .ok (.iadd, 1) := by decide +kernel
theorem dX4_codeTold_30 : decode cX4_codeTold 30 = .ok (.iaload, 1) := by decide +kernel
theorem dX4_codeTold_31 : decode cX4_codeTold 31 = .ok (.istore 5, 2) := by decide +kernel
theorem dX4_codeTold_33 : decode cX4_codeTold 33 = .ok (.bipush 10, 2) := by decide +kernel
theorem dX4_codeTold_35 : decode cX4_codeTold 35 = .ok (.iload_n 3, 1) := by decide +kernel
theorem dX4_codeTold_36 : decode cX4_codeTold 36 = .ok (.imul, 1) := by decide +kernel
theorem dX4_codeTold_37 : decode cX4_codeTold 37 = .ok (.iload 5, 2) := by decide +kernel
theorem dX4_codeTold_39 : decode cX4_codeTold 39 = .ok (.bipush 43, 2) := by decide +kernel
theorem dX4_codeTold_41 : decode cX4_codeTold 41 = .ok (.if_icmp .ne 7, 3) := by decide +kernel
theorem dX4_codeTold_44 : decode cX4_codeTold 44 = .ok (.iconst 1, 1) := by decide +kernel
theorem dX4_codeTold_45 : decode cX4_codeTold 45 = .ok (.goto 15, 3) := by decide +kernel
theorem dX4_codeTold_48 : decode cX4_codeTold 48 = .ok (.iload 5, 2) := by decide +kernel
theorem dX4_codeTold_50 : decode cX4_codeTold 50 = .ok (.bipush 45, 2) := by decide +kernel
theorem dX4_codeTold_52 : decode cX4_codeTold 52 = .ok (.if_icmp .ne 7, 3) := by decide +kernel
theorem dX4_codeTold_55 : decode cX4_codeTold 55 = .ok (.iconst 2, 1) := by decide +kernel
theorem dX4_codeTold_56 : decode cX4_codeTold 56 = .ok (.goto 4, 3) := by decide +kernel
theorem dX4_codeTold_59 : decode cX4_codeTold 59 = .ok (.iconst 0, 1) := by decide +kernel
theorem dX4_codeTold_60 : decode cX4_codeTold 60 = .ok (.iadd, 1) := by decide +kernel
theorem dX4_codeTold_61 : decode cX4_codeTold 61 = .ok (.istore_n 3, 1) := by decide +kernel
theorem dX4_codeTold_62 : decode cX4_codeTold 62 = .ok (.iinc 4 1, 3) := by decide +kernel
theorem dX4_codeTold_65 : decode cX4_codeTold 65 = .ok (.goto (-52), 3) := by decide +kernel
theorem dX4_codeTold_68 : decode cX4_codeTold 68 = .ok (.iload_n 3, 1) := by decide +kernel
theorem dX4_codeTold_69 : decode cX4_codeTold 69 = .ok (.ireturn, 1) := by decide +kernel
theorem dX4_readingTold_0 : decode cX4_readingTold 0 = .ok (.aload_n 0, 1) := by decide +kernel
theorem dX4_readingTold_1 : decode cX4_readingTold 1 = .ok (.iload_n 1, 1) := by decide +kernel
theorem dX4_readingTold_2 : decode cX4_readingTold 2 = .ok (.invokevirtual 40, 3) := by decide +kernel
theorem dX4_readingTold_5 : decode cX4_readingTold 5 = .ok (.aload_n 0, 1) := by decide +kernel
theorem dX4_readingTold_6 : decode cX4_readingTold 6 = .ok (.invokevirtual 30, 3) := by decide +kernel
theorem dX4_readingTold_9 : decode cX4_readingTold 9 = .ok (.iadd, 1) := by decide +kernel
theorem dX4_readingTold_10 : decode cX4_readingTold 10 = .ok (.iconst 2, 1) := by decide +kernel
theorem dX4_readingTold_11 : decode cX4_readingTold 11 = .ok (.iadd, 1) := by decide +kernel
theorem dX4_readingTold_12 : decode cX4_readingTold 12 = .ok (.istore_n 2, 1) := by decide +kernel
theorem dX4_readingTold_13 : decode cX4_readingTold 13 = .ok (.bipush 100, 2) := by decide +kernel
theorem dX4_readingTold_15 : decode cX4_readingTold 15 = .ok (.aload_n 0, 1) := by decide +kernel
theorem dX4_readingTold_16 : decode cX4_readingTold 16 = .ok (.iload_n 2, 1) := by decide +kernel
theorem dX4_readingTold_17 : decode cX4_readingTold 17 = .ok (.iconst 1, 1) := by decide +kernel
theorem dX4_readingTold_18 : decode cX4_readingTold 18 = .ok (.iadd, 1) := by decide +kernel
theorem dX4_readingTold_19 : decode cX4_readingTold 19 = .ok (.invokevirtual 36, 3) := by decide +kernel
theorem dX4_readingTold_22 : decode cX4_readingTold 22 = .ok (.imul, 1) := by decide +kernel
theorem dX4_readingTold_23 : decode cX4_readingTold 23 = .ok (.bipush 10, 2) := by decide +kernel
theorem dX4_readingTold_25 : decode cX4_readingTold 25 = .ok (.aload_n 0, 1) := by decide +kernel
theorem dX4_readingTold_26 : decode cX4_readingTold 26 = .ok (.iload_n 2, 1) := by decide +kernel
theorem dX4_readingTold_27 : decode cX4_readingTold 27 = .ok (.iconst 2, 1) := by decide +kernel
theorem dX4_readingTold_28 : decode cX4_readingTold 28 = .ok (.iadd, 1) := by decide +kernel
theorem dX4_readingTold_29 : decode cX4_readingTold 29 = .ok (.invokevirtual 36, 3) := by decide +kernel
theorem dX4_readingTold_32 : decode cX4_readingTold 32 = .ok (.imul, 1) := by decide +kernel
theorem dX4_readingTold_33 : decode cX4_readingTold 33 = .ok (.iadd, 1) := by decide +kernel
theorem dX4_readingTold_34 : decode cX4_readingTold 34 = .ok (.aload_n 0, 1) := by decide +kernel
theorem dX4_readingTold_35 : decode cX4_readingTold 35 = .ok (.iload_n 2, 1) := by decide +kernel
theorem dX4_readingTold_36 : decode cX4_readingTold 36 = .ok (.iconst 3, 1) := by decide +kernel
theorem dX4_readingTold_37 : decode cX4_readingTold 37 = .ok (.iadd, 1) := by decide +kernel
theorem dX4_readingTold_38 : decode cX4_readingTold 38 = .ok (.invokevirtual 36, 3) := by decide +kernel
theorem dX4_readingTold_41 : decode cX4_readingTold 41 = .ok (.iadd, 1) := by decide +kernel
theorem dX4_readingTold_42 : decode cX4_readingTold 42 = .ok (.istore_n 3, 1) := by decide +kernel
theorem dX4_readingTold_43 : decode cX4_readingTold 43 = .ok (.aload_n 0, 1) := by decide +kernel
theorem dX4_readingTold_44 : decode cX4_readingTold 44 = .ok (.getfield 9, 3) := by decide +kernel
theorem dX4_readingTold_47 : decode cX4_readingTold 47 = .ok (.iload_n 2, 1) := by decide +kernel
theorem dX4_readingTold_48 : decode cX4_readingTold 48 = .ok (.iaload, 1) := by decide +kernel
theorem dX4_readingTold_49 : decode cX4_readingTold 49 = .ok (.bipush 45, 2) := by decide +kernel
theorem dX4_readingTold_51 : decode cX4_readingTold 51 = .ok (.if_icmp .ne 8, 3) := by decide +kernel
theorem dX4_readingTold_54 : decode cX4_readingTold 54 = .ok (.iload_n 3, 1) := by decide +kernel
theorem dX4_readingTold_55 : decode cX4_readingTold 55 = .ok (.ineg, 1) := by decide +kernel
theorem dX4_readingTold_56 : decode cX4_readingTold 56 = .ok (.goto 4, 3) := by decide +kernel
theorem dX4_readingTold_59 : decode cX4_readingTold 59 = .ok (.iload_n 3, 1) := by decide +kernel
theorem dX4_readingTold_60 : decode cX4_readingTold 60 = .ok (.ireturn, 1) := by decide +kernel
theorem dX4_startOf_0 : decode cX4_startOf 0 = .ok (.iconst 4, 1) := by decide +kernel
theorem dX4_startOf_1 : decode cX4_startOf 1 = .ok (.iload_n 1, 1) := by decide +kernel
theorem dX4_startOf_2 : decode cX4_startOf 2 = .ok (.aload_n 0, 1) := by decide +kernel
theorem dX4_startOf_3 : decode cX4_startOf 3 = .ok (.invokevirtual 23, 3) := by decide +kernel
theorem dX4_startOf_6 : decode cX4_startOf 6 = .ok (.imul, 1) := by decide +kernel
theorem dX4_startOf_7 : decode cX4_startOf 7 = .ok (.iadd, 1) := by decide +kernel
theorem dX4_startOf_8 : decode cX4_startOf 8 = .ok (.ireturn, 1) := by decide +kernel
theorem dX4_figureAt_0 : decode cX4_figureAt 0 = .ok (.aload_n 0, 1) := by decide +kernel
theorem dX4_figureAt_1 : decode cX4_figureAt 1 = .ok (.getfield 9, 3) := by decide +kernel
theorem dX4_figureAt_4 : decode cX4_figureAt 4 = .ok (.iload_n 1, 1) := by decide +kernel
theorem dX4_figureAt_5 : decode cX4_figureAt 5 = .ok (.iaload, 1) := by decide +kernel
theorem dX4_figureAt_6 : decode cX4_figureAt 6 = .ok (.bipush 48, 2) := by decide +kernel
theorem dX4_figureAt_8 : decode cX4_figureAt 8 = .ok (.isub, 1) := by decide +kernel
theorem dX4_figureAt_9 : decode cX4_figureAt 9 = .ok (.ireturn, 1) := by decide +kernel
theorem dX5_init_0 : decode cX5_init 0 = .ok (.aload_n 0, 1) := by decide +kernel
theorem dX5_init_1 : decode cX5_init 1 = .ok (.invokespecial 1, 3) := by decide +kernel
theorem dX5_init_4 : decode cX5_init 4 = .ok (.aload_n 0, 1) := by decide +kernel
theorem dX5_init_5 : decode cX5_init 5 = .ok (.new 7, 3) := by decide +kernel
theorem dX5_init_8 : decode cX5_init 8 = .ok (.dup, 1) := by decide +kernel
theorem dX5_init_9 : decode cX5_init 9 = .ok (.invokespecial 9, 3) := by decide +kernel
theorem dX5_init_12 : decode cX5_init 12 = .ok (.putfield 10, 3) := by decide +kernel
theorem dX5_init_15 : decode cX5_init 15 = .ok (.aload_n 0, 1) := by decide +kernel
theorem dX5_init_16 : decode cX5_init 16 = .ok (.new 16, 3) := by decide +kernel
theorem dX5_init_19 : decode cX5_init 19 = .ok (.dup, 1) := by decide +kernel
theorem dX5_init_20 : decode cX5_init 20 = .ok (.invokespecial 18, 3) := by decide +kernel
theorem dX5_init_23 : decode cX5_init 23 = .ok (.putfield 19, 3) := by decide +kernel
theorem dX5_init_26 : decode cX5_init 26 = .ok (.aload_n 0, 1) := by decide +kernel
theorem dX5_init_27 : decode cX5_init 27 = .ok (.new 16, 3) := by decide +kernel
theorem dX5_init_30 : decode cX5_init 30 = .ok (.dup, 1) := by decide +kernel
theorem dX5_init_31 : decode cX5_init 31 = .ok (.invokespecial 18, 3) := by decide +kernel
theorem dX5_init_34 : decode cX5_init 34 = .ok (.putfield 23, 3) := by decide +kernel
theorem dX5_init_37 : decode cX5_init 37 = .ok (.aload_n 0, 1) := by decide +kernel
theorem dX5_init_38 : decode cX5_init 38 = .ok (.new 26, 3) := by decide +kernel
theorem dX5_init_41 : decode cX5_init 41 = .ok (.dup, 1) := by decide +kernel
theorem dX5_init_42 : decode cX5_init 42 = .ok (.invokespecial 28, 3) := by decide +kernel
theorem dX5_init_45 : decode cX5_init 45 = .ok (.putfield 29, 3) := by decide +kernel
theorem dX5_init_48 : decode cX5_init 48 = .ok (.aload_n 0, 1) := by decide +kernel
theorem dX5_init_49 : decode cX5_init 49 = .ok (.iconst 2, 1) := by decide +kernel
theorem dX5_init_50 : decode cX5_init 50 = .ok (.anewarray 16, 3) := by decide +kernel
theorem dX5_init_53 : decode cX5_init 53 = .ok (.putfield 33, 3) := by decide +kernel
theorem dX5_init_56 : decode cX5_init 56 = .ok (.aload_n 0, 1) := by decide +kernel
theorem dX5_init_57 : decode cX5_init 57 = .ok (.iconst 2, 1) := by decide +kernel
theorem dX5_init_58 : decode cX5_init 58 = .ok (.newarray .boolean, 2) := by decide +kernel
theorem dX5_init_60 : decode cX5_init 60 = .ok (.putfield 37, 3) := by decide +kernel
theorem dX5_init_63 : decode cX5_init 63 = .ok (.aload_n 0, 1) := by decide +kernel
theorem dX5_init_64 : decode cX5_init 64 = .ok (.new 41, 3) := by decide +kernel
theorem dX5_init_67 : decode cX5_init 67 = .ok (.dup, 1) := by decide +kernel
theorem dX5_init_68 : decode cX5_init 68 = .ok (.invokespecial 43, 3) := by decide +kernel
theorem dX5_init_71 : decode cX5_init 71 = .ok (.putfield 44, 3) := by decide +kernel
theorem dX5_init_74 : decode cX5_init 74 = .ok (.aload_n 0, 1) := by decide +kernel
theorem dX5_init_75 : decode cX5_init 75 = .ok (.new 48, 3) := by decide +kernel
theorem dX5_init_78 : decode cX5_init 78 = .ok (.dup, 1) := by decide +kernel
theorem dX5_init_79 : decode cX5_init 79 = .ok (.invokespecial 50, 3) := by decide +kernel
theorem dX5_init_82 : decode cX5_init 82 = .ok (.putfield 51, 3) := by decide +kernel
theorem dX5_init_85 : decode cX5_init 85 = .ok (.aload_n 0, 1) := by decide +kernel
theorem dX5_init_86 : decode cX5_init 86 = .ok (.lconst 0, 1) := by decide +kernel
theorem dX5_init_87 : decode cX5_init 87 = .ok (.putfield 55, 3) := by decide +kernel
theorem dX5_init_90 : decode cX5_init 90 = .ok (.iconst 0, 1) := by decide +kernel
theorem dX5_init_91 : decode cX5_init 91 = .ok (.istore_n 1, 1) := by decide +kernel
theorem dX5_init_92 : decode cX5_init 92 = .ok (.iload_n 1, 1) := by decide +kernel
theorem dX5_init_93 : decode cX5_init 93 = .ok (.iconst 2, 1) := by decide +kernel
theorem dX5_init_94 : decode cX5_init 94 = .ok (.if_icmp .ge 22, 3) := by decide +kernel
theorem dX5_init_97 : decode cX5_init 97 = .ok (.aload_n 0, 1) := by decide +kernel
theorem dX5_init_98 : decode cX5_init 98 = .ok (.getfield 33, 3) := by decide +kernel
theorem dX5_init_101 : decode cX5_init 101 = .ok (.iload_n 1, 1) := by decide +kernel
theorem dX5_init_102 : decode cX5_init 102 = .ok (.new 16, 3) := by decide +kernel
theorem dX5_init_105 : decode cX5_init 105 = .ok (.dup, 1) := by decide +kernel
theorem dX5_init_106 : decode cX5_init 106 = .ok (.invokespecial 18, 3) := by decide +kernel
theorem dX5_init_109 : decode cX5_init 109 = .ok (.aastore, 1) := by decide +kernel
theorem dX5_init_110 : decode cX5_init 110 = .ok (.iinc 1 1, 3) := by decide +kernel
theorem dX5_init_113 : decode cX5_init 113 = .ok (.goto (-21), 3) := by decide +kernel
theorem dX5_init_116 : decode cX5_init 116 = .ok (.return_, 1) := by decide +kernel
theorem dX5_write_0 : decode cX5_write 0 = .ok (.iload_n 1, 1) := by decide +kernel
theorem dX5_write_1 : decode cX5_write 1 = .ok (.ifCond .lt 10, 3) := by decide +kernel
theorem dX5_write_4 : decode cX5_write 4 = .ok (.iload_n 1, 1) := by decide +kernel
theorem dX5_write_5 : decode cX5_write 5 = .ok (.sipush 255, 3) := by decide +kernel
theorem dX5_write_8 : decode cX5_write 8 = .ok (.if_icmp .le 6, 3) := by decide +kernel
theorem dX5_write_11 : decode cX5_write 11 = .ok (.bipush (-2), 2) := by decide +kernel
theorem dX5_write_13 : decode cX5_write 13 = .ok (.ireturn, 1) := by decide +kernel
theorem dX5_write_14 : decode cX5_write 14 = .ok (.aload_n 0, 1) := by decide +kernel
theorem dX5_write_15 : decode cX5_write 15 = .ok (.getfield 10, 3) := by decide +kernel
theorem dX5_write_18 : decode cX5_write 18 = .ok (.getfield 59, 3) := by decide +kernel
theorem dX5_write_21 : decode cX5_write 21 = .ok (.bipush 90, 2) := by decide +kernel
theorem dX5_write_23 : decode cX5_write 23 = .ok (.if_icmp .lt 6, 3) := by decide +kernel
theorem dX5_write_26 : decode cX5_write 26 = .ok (.bipush (-4), 2) := by decide +kernel
theorem dX5_write_28 : decode cX5_write 28 = .ok (.ireturn, 1) := by decide +kernel
theorem dX5_write_29 : decode cX5_write 29 = .ok (.aload_n 0, 1) := by decide +kernel
theorem dX5_write_30 : decode cX5_write 30 = .ok (.getfield 10, 3) := by decide +kernel
theorem dX5_write_33 : decode cX5_write 33 = .ok (.getfield 63, 3) := by decide +kernel
theorem dX5_write_36 : decode cX5_write 36 = .ok (.aload_n 0, 1) := by decide +kernel
theorem dX5_write_37 : decode cX5_write 37 = .ok (.getfield 10, 3) := by decide +kernel
theorem dX5_write_40 : decode cX5_write 40 = .ok (.getfield 59, 3) := by decide +kernel
theorem dX5_write_43 : decode cX5_write 43 = .ok (.iload_n 1, 1) := by decide +kernel
theorem dX5_write_44 : decode cX5_write 44 = .ok (.iastore, 1) := by decide +kernel
theorem dX5_write_45 : decode cX5_write 45 = .ok (.aload_n 0, 1) := by decide +kernel
theorem dX5_write_46 : decode cX5_write 46 = .ok (.getfield 10, 3) := by decide +kernel
theorem dX5_write_49 : decode cX5_write 49 = .ok (.dup, 1) := by decide +kernel
theorem dX5_write_50 : decode cX5_write 50 = .ok (.getfield 59, 3) := by decide +kernel
end
section
theorem dX5_write_53 : decode cX5_write 53 = .ok (.iconst 1, 1) := by decide +kernel
theorem dX5_write_54 : decode cX5_write 54 = .ok (.iadd, 1) := by decide +kernel
theorem dX5_write_55 : decode cX5_write 55 = .ok (.putfield 59, 3) := by decide +kernel
theorem dX5_write_58 : decode cX5_write 58 = .ok (.aload_n 0, 1) := by decide +kernel
theorem dX5_write_59 : decode cX5_write 59 = .ok (.getfield 10, 3) := by decide +kernel
theorem dX5_write_62 : decode cX5_write 62 = .ok (.getfield 59, 3) := by decide +kernel
theorem dX5_write_65 : decode cX5_write 65 = .ok (.ireturn, 1) := by decide +kernel
theorem dX5_wipe_0 : decode cX5_wipe 0 = .ok (.aload_n 0, 1) := by decide +kernel
theorem dX5_wipe_1 : decode cX5_wipe 1 = .ok (.getfield 10, 3) := by decide +kernel
theorem dX5_wipe_4 : decode cX5_wipe 4 = .ok (.getfield 59, 3) := by decide +kernel
theorem dX5_wipe_7 : decode cX5_wipe 7 = .ok (.istore_n 1, 1) := by decide +kernel
theorem dX5_wipe_8 : decode cX5_wipe 8 = .ok (.aload_n 0, 1) := by decide +kernel
theorem dX5_wipe_9 : decode cX5_wipe 9 = .ok (.getfield 10, 3) := by decide +kernel
theorem dX5_wipe_12 : decode cX5_wipe 12 = .ok (.iconst 0, 1) := by decide +kernel
theorem dX5_wipe_13 : decode cX5_wipe 13 = .ok (.putfield 59, 3) := by decide +kernel
theorem dX5_wipe_16 : decode cX5_wipe 16 = .ok (.iload_n 1, 1) := by decide +kernel
theorem dX5_wipe_17 : decode cX5_wipe 17 = .ok (.ireturn, 1) := by decide +kernel
theorem dX5_fault_0 : decode cX5_fault 0 = .ok (.aload_n 0, 1) := by decide +kernel
theorem dX5_fault_1 : decode cX5_fault 1 = .ok (.getfield 10, 3) := by decide +kernel
theorem dX5_fault_4 : decode cX5_fault 4 = .ok (.invokevirtual 67, 3) := by decide +kernel
theorem dX5_fault_7 : decode cX5_fault 7 = .ok (.ireturn, 1) := by decide +kernel
theorem dX5_room_0 : decode cX5_room 0 = .ok (.aload_n 0, 1) := by decide +kernel
theorem dX5_room_1 : decode cX5_room 1 = .ok (.getfield 10, 3) := by decide +kernel
theorem dX5_room_4 : decode cX5_room 4 = .ok (.invokevirtual 67, 3) := by decide +kernel
theorem dX5_room_7 : decode cX5_room 7 = .ok (.bipush (-9), 2) := by decide +kernel
theorem dX5_room_9 : decode cX5_room 9 = .ok (.if_icmp .eq 6, 3) := by decide +kernel
theorem dX5_room_12 : decode cX5_room 12 = .ok (.bipush (-3), 2) := by decide +kernel
theorem dX5_room_14 : decode cX5_room 14 = .ok (.ireturn, 1) := by decide +kernel
theorem dX5_room_15 : decode cX5_room 15 = .ok (.aload_n 0, 1) := by decide +kernel
theorem dX5_room_16 : decode cX5_room 16 = .ok (.getfield 19, 3) := by decide +kernel
theorem dX5_room_19 : decode cX5_room 19 = .ok (.aload_n 0, 1) := by decide +kernel
theorem dX5_room_20 : decode cX5_room 20 = .ok (.getfield 10, 3) := by decide +kernel
theorem dX5_room_23 : decode cX5_room 23 = .ok (.invokevirtual 71, 3) := by decide +kernel
theorem dX5_room_26 : decode cX5_room 26 = .ok (.aload_n 0, 1) := by decide +kernel
theorem dX5_room_27 : decode cX5_room 27 = .ok (.getfield 29, 3) := by decide +kernel
theorem dX5_room_30 : decode cX5_room 30 = .ok (.invokevirtual 75, 3) := by decide +kernel
theorem dX5_room_33 : decode cX5_room 33 = .ok (.iconst 0, 1) := by decide +kernel
theorem dX5_room_34 : decode cX5_room 34 = .ok (.istore_n 1, 1) := by decide +kernel
theorem dX5_room_35 : decode cX5_room 35 = .ok (.iload_n 1, 1) := by decide +kernel
theorem dX5_room_36 : decode cX5_room 36 = .ok (.iconst 2, 1) := by decide +kernel
theorem dX5_room_37 : decode cX5_room 37 = .ok (.if_icmp .ge 16, 3) := by decide +kernel
theorem dX5_room_40 : decode cX5_room 40 = .ok (.aload_n 0, 1) := by decide +kernel
theorem dX5_room_41 : decode cX5_room 41 = .ok (.getfield 37, 3) := by decide +kernel
theorem dX5_room_44 : decode cX5_room 44 = .ok (.iload_n 1, 1) := by decide +kernel
theorem dX5_room_45 : decode cX5_room 45 = .ok (.iconst 0, 1) := by decide +kernel
theorem dX5_room_46 : decode cX5_room 46 = .ok (.bastore, 1) := by decide +kernel
theorem dX5_room_47 : decode cX5_room 47 = .ok (.iinc 1 1, 3) := by decide +kernel
theorem dX5_room_50 : decode cX5_room 50 = .ok (.goto (-15), 3) := by decide +kernel
theorem dX5_room_53 : decode cX5_room 53 = .ok (.aload_n 0, 1) := by decide +kernel
theorem dX5_room_54 : decode cX5_room 54 = .ok (.getfield 19, 3) := by decide +kernel
theorem dX5_room_57 : decode cX5_room 57 = .ok (.getfield 78, 3) := by decide +kernel
theorem dX5_room_60 : decode cX5_room 60 = .ok (.ireturn, 1) := by decide +kernel
theorem dX5_code_0 : decode cX5_code 0 = .ok (.aload_n 0, 1) := by decide +kernel
theorem dX5_code_1 : decode cX5_code 1 = .ok (.getfield 19, 3) := by decide +kernel
theorem dX5_code_4 : decode cX5_code 4 = .ok (.iload_n 1, 1) := by decide +kernel
theorem dX5_code_5 : decode cX5_code 5 = .ok (.invokevirtual 81, 3) := by decide +kernel
theorem dX5_code_8 : decode cX5_code 8 = .ok (.ifCond .eq 15, 3) := by decide +kernel
theorem dX5_code_11 : decode cX5_code 11 = .ok (.aload_n 0, 1) := by decide +kernel
theorem dX5_code_12 : decode cX5_code 12 = .ok (.getfield 19, 3) := by decide +kernel
theorem dX5_code_15 : decode cX5_code 15 = .ok (.getfield 85, 3) := by decide +kernel
theorem dX5_code_18 : decode cX5_code 18 = .ok (.iload_n 1, 1) := by decide +kernel
theorem dX5_code_19 : decode cX5_code 19 = .ok (.iaload, 1) := by decide +kernel
theorem dX5_code_20 : decode cX5_code 20 = .ok (.goto 4, 3) := by decide +kernel
theorem dX5_code_23 : decode cX5_code 23 = .ok (.iconst (-1), 1) := by decide +kernel
theorem dX5_code_24 : decode cX5_code 24 = .ok (.ireturn, 1) := by decide +kernel
theorem dX5_reading_0 : decode cX5_reading 0 = .ok (.aload_n 0, 1) := by decide +kernel
theorem dX5_reading_1 : decode cX5_reading 1 = .ok (.getfield 19, 3) := by decide +kernel
theorem dX5_reading_4 : decode cX5_reading 4 = .ok (.iload_n 1, 1) := by decide +kernel
theorem dX5_reading_5 : decode cX5_reading 5 = .ok (.invokevirtual 81, 3) := by decide +kernel
theorem dX5_reading_8 : decode cX5_reading 8 = .ok (.ifCond .eq 19, 3) := by decide +kernel
theorem dX5_reading_11 : decode cX5_reading 11 = .ok (.aload_n 0, 1) := by decide +kernel
theorem dX5_reading_12 : decode cX5_reading 12 = .ok (.getfield 19, 3) := by decide +kernel
theorem dX5_reading_15 : decode cX5_reading 15 = .ok (.getfield 88, 3) := by decide +kernel
theorem dX5_reading_18 : decode cX5_reading 18 = .ok (.iload_n 1, 1) := by decide +kernel
theorem dX5_reading_19 : decode cX5_reading 19 = .ok (.iaload, 1) := by decide +kernel
theorem dX5_reading_20 : decode cX5_reading 20 = .ok (.sipush 1000, 3) := by decide +kernel
theorem dX5_reading_23 : decode cX5_reading 23 = .ok (.iadd, 1) := by decide +kernel
theorem dX5_reading_24 : decode cX5_reading 24 = .ok (.goto 4, 3) := by decide +kernel
theorem dX5_reading_27 : decode cX5_reading 27 = .ok (.iconst (-1), 1) := by decide +kernel
theorem dX5_reading_28 : decode cX5_reading 28 = .ok (.ireturn, 1) := by decide +kernel
theorem dX5_weigh_0 : decode cX5_weigh 0 = .ok (.iload_n 1, 1) := by decide +kernel
theorem dX5_weigh_1 : decode cX5_weigh 1 = .ok (.aload_n 0, 1) := by decide +kernel
theorem dX5_weigh_2 : decode cX5_weigh 2 = .ok (.getfield 19, 3) := by decide +kernel
theorem dX5_weigh_5 : decode cX5_weigh 5 = .ok (.getfield 91, 3) := by decide +kernel
theorem dX5_weigh_8 : decode cX5_weigh 8 = .ok (.invokestatic 94, 3) := by decide +kernel
theorem dX5_weigh_11 : decode cX5_weigh 11 = .ok (.ifCond .eq 10, 3) := by decide +kernel
theorem dX5_weigh_14 : decode cX5_weigh 14 = .ok (.iload_n 2, 1) := by decide +kernel
theorem dX5_weigh_15 : decode cX5_weigh 15 = .ok (.invokestatic 98, 3) := by decide +kernel
theorem dX5_weigh_18 : decode cX5_weigh 18 = .ok (.ifCond .ne 6, 3) := by decide +kernel
theorem dX5_weigh_21 : decode cX5_weigh 21 = .ok (.bipush (-2), 2) := by decide +kernel
theorem dX5_weigh_23 : decode cX5_weigh 23 = .ok (.ireturn, 1) := by decide +kernel
theorem dX5_weigh_24 : decode cX5_weigh 24 = .ok (.aload_n 0, 1) := by decide +kernel
theorem dX5_weigh_25 : decode cX5_weigh 25 = .ok (.getfield 19, 3) := by decide +kernel
theorem dX5_weigh_28 : decode cX5_weigh 28 = .ok (.getfield 78, 3) := by decide +kernel
theorem dX5_weigh_31 : decode cX5_weigh 31 = .ok (.bipush 8, 2) := by decide +kernel
theorem dX5_weigh_33 : decode cX5_weigh 33 = .ok (.if_icmp .lt 6, 3) := by decide +kernel
theorem dX5_weigh_36 : decode cX5_weigh 36 = .ok (.bipush (-4), 2) := by decide +kernel
theorem dX5_weigh_38 : decode cX5_weigh 38 = .ok (.ireturn, 1) := by decide +kernel
theorem dX5_weigh_39 : decode cX5_weigh 39 = .ok (.aload_n 0, 1) := by decide +kernel
theorem dX5_weigh_40 : decode cX5_weigh 40 = .ok (.getfield 29, 3) := by decide +kernel
theorem dX5_weigh_43 : decode cX5_weigh 43 = .ok (.aload_n 0, 1) := by decide +kernel
theorem dX5_weigh_44 : decode cX5_weigh 44 = .ok (.getfield 19, 3) := by decide +kernel
theorem dX5_weigh_47 : decode cX5_weigh 47 = .ok (.invokevirtual 101, 3) := by decide +kernel
theorem dX5_weigh_50 : decode cX5_weigh 50 = .ok (.aload_n 0, 1) := by decide +kernel
theorem dX5_weigh_51 : decode cX5_weigh 51 = .ok (.getfield 19, 3) := by decide +kernel
theorem dX5_weigh_54 : decode cX5_weigh 54 = .ok (.iload_n 1, 1) := by decide +kernel
theorem dX5_weigh_55 : decode cX5_weigh 55 = .ok (.iload_n 2, 1) := by decide +kernel
theorem dX5_weigh_56 : decode cX5_weigh 56 = .ok (.invokevirtual 105, 3) := by decide +kernel
theorem dX5_weigh_59 : decode cX5_weigh 59 = .ok (.aload_n 0, 1) := by decide +kernel
theorem dX5_weigh_60 : decode cX5_weigh 60 = .ok (.getfield 19, 3) := by decide +kernel
theorem dX5_weigh_63 : decode cX5_weigh 63 = .ok (.getfield 78, 3) := by decide +kernel
theorem dX5_weigh_66 : decode cX5_weigh 66 = .ok (.ireturn, 1) := by decide +kernel
theorem dX5_take_0 : decode cX5_take 0 = .ok (.aload_n 0, 1) := by decide +kernel
theorem dX5_take_1 : decode cX5_take 1 = .ok (.getfield 19, 3) := by decide +kernel
theorem dX5_take_4 : decode cX5_take 4 = .ok (.iload_n 1, 1) := by decide +kernel
theorem dX5_take_5 : decode cX5_take 5 = .ok (.invokevirtual 81, 3) := by decide +kernel
theorem dX5_take_8 : decode cX5_take 8 = .ok (.ifCond .ne 5, 3) := by decide +kernel
theorem dX5_take_11 : decode cX5_take 11 = .ok (.iconst (-1), 1) := by decide +kernel
theorem dX5_take_12 : decode cX5_take 12 = .ok (.ireturn, 1) := by decide +kernel
theorem dX5_take_13 : decode cX5_take 13 = .ok (.aload_n 0, 1) := by decide +kernel
theorem dX5_take_14 : decode cX5_take 14 = .ok (.getfield 29, 3) := by decide +kernel
theorem dX5_take_17 : decode cX5_take 17 = .ok (.aload_n 0, 1) := by decide +kernel
theorem dX5_take_18 : decode cX5_take 18 = .ok (.getfield 19, 3) := by decide +kernel
theorem dX5_take_21 : decode cX5_take 21 = .ok (.invokevirtual 101, 3) := by decide +kernel
theorem dX5_take_24 : decode cX5_take 24 = .ok (.aload_n 0, 1) := by decide +kernel
theorem dX5_take_25 : decode cX5_take 25 = .ok (.getfield 19, 3) := by decide +kernel
theorem dX5_take_28 : decode cX5_take 28 = .ok (.iload_n 1, 1) := by decide +kernel
theorem dX5_take_29 : decode cX5_take 29 = .ok (.invokevirtual 109, 3) := by decide +kernel
theorem dX5_take_32 : decode cX5_take 32 = .ok (.aload_n 0, 1) := by decide +kernel
theorem dX5_take_33 : decode cX5_take 33 = .ok (.getfield 19, 3) := by decide +kernel
theorem dX5_take_36 : decode cX5_take 36 = .ok (.getfield 78, 3) := by decide +kernel
theorem dX5_take_39 : decode cX5_take 39 = .ok (.ireturn, 1) := by decide +kernel
theorem dX5_swap_0 : decode cX5_swap 0 = .ok (.aload_n 0, 1) := by decide +kernel
theorem dX5_swap_1 : decode cX5_swap 1 = .ok (.getfield 19, 3) := by decide +kernel
theorem dX5_swap_4 : decode cX5_swap 4 = .ok (.iload_n 1, 1) := by decide +kernel
theorem dX5_swap_5 : decode cX5_swap 5 = .ok (.invokevirtual 81, 3) := by decide +kernel
theorem dX5_swap_8 : decode cX5_swap 8 = .ok (.ifCond .eq 14, 3) := by decide +kernel
theorem dX5_swap_11 : decode cX5_swap 11 = .ok (.aload_n 0, 1) := by decide +kernel
theorem dX5_swap_12 : decode cX5_swap 12 = .ok (.getfield 19, 3) := by decide +kernel
theorem dX5_swap_15 : decode cX5_swap 15 = .ok (.iload_n 2, 1) := by decide +kernel
theorem dX5_swap_16 : decode cX5_swap 16 = .ok (.invokevirtual 81, 3) := by decide +kernel
theorem dX5_swap_19 : decode cX5_swap 19 = .ok (.ifCond .ne 5, 3) := by decide +kernel
theorem dX5_swap_22 : decode cX5_swap 22 = .ok (.iconst (-1), 1) := by decide +kernel
theorem dX5_swap_23 : decode cX5_swap 23 = .ok (.ireturn, 1) := by decide +kernel
theorem dX5_swap_24 : decode cX5_swap 24 = .ok (.iload_n 1, 1) := by decide +kernel
theorem dX5_swap_25 : decode cX5_swap 25 = .ok (.iload_n 2, 1) := by decide +kernel
theorem dX5_swap_26 : decode cX5_swap 26 = .ok (.if_icmp .ne 6, 3) := by decide +kernel
theorem dX5_swap_29 : decode cX5_swap 29 = .ok (.bipush (-3), 2) := by decide +kernel
theorem dX5_swap_31 : decode cX5_swap 31 = .ok (.ireturn, 1) := by decide +kernel
theorem dX5_swap_32 : decode cX5_swap 32 = .ok (.aload_n 0, 1) := by decide +kernel
theorem dX5_swap_33 : decode cX5_swap 33 = .ok (.getfield 29, 3) := by decide +kernel
theorem dX5_swap_36 : decode cX5_swap 36 = .ok (.aload_n 0, 1) := by decide +kernel
theorem dX5_swap_37 : decode cX5_swap 37 = .ok (.getfield 19, 3) := by decide +kernel
theorem dX5_swap_40 : decode cX5_swap 40 = .ok (.invokevirtual 101, 3) := by decide +kernel
theorem dX5_swap_43 : decode cX5_swap 43 = .ok (.aload_n 0, 1) := by decide +kernel
theorem dX5_swap_44 : decode cX5_swap 44 = .ok (.getfield 19, 3) := by decide +kernel
theorem dX5_swap_47 : decode cX5_swap 47 = .ok (.iload_n 1, 1) := by decide +kernel
theorem dX5_swap_48 : decode cX5_swap 48 = .ok (.iload_n 2, 1) := by decide +kernel
theorem dX5_swap_49 : decode cX5_swap 49 = .ok (.invokevirtual 113, 3) := by decide +kernel
theorem dX5_swap_52 : decode cX5_swap 52 = .ok (.aload_n 0, 1) := by decide +kernel
theorem dX5_swap_53 : decode cX5_swap 53 = .ok (.getfield 19, 3) := by decide +kernel
theorem dX5_swap_56 : decode cX5_swap 56 = .ok (.getfield 85, 3) := by decide +kernel
theorem dX5_swap_59 : decode cX5_swap 59 = .ok (.iload_n 1, 1) := by decide +kernel
theorem dX5_swap_60 : decode cX5_swap 60 = .ok (.iaload, 1) := by decide +kernel
theorem dX5_swap_61 : decode cX5_swap 61 = .ok (.ireturn, 1) := by decide +kernel
theorem dX5_read_0 : decode cX5_read 0 = .ok (.aload_n 0, 1) := by decide +kernel
theorem dX5_read_1 : decode cX5_read 1 = .ok (.getfield 19, 3) := by decide +kernel
theorem dX5_read_4 : decode cX5_read 4 = .ok (.iload_n 1, 1) := by decide +kernel
theorem dX5_read_5 : decode cX5_read 5 = .ok (.invokevirtual 81, 3) := by decide +kernel
theorem dX5_read_8 : decode cX5_read 8 = .ok (.ifCond .ne 5, 3) := by decide +kernel
theorem dX5_read_11 : decode cX5_read 11 = .ok (.iconst (-1), 1) := by decide +kernel
theorem dX5_read_12 : decode cX5_read 12 = .ok (.ireturn, 1) := by decide +kernel
theorem dX5_read_13 : decode cX5_read 13 = .ok (.iload_n 2, 1) := by decide +kernel
theorem dX5_read_14 : decode cX5_read 14 = .ok (.invokestatic 98, 3) := by decide +kernel
theorem dX5_read_17 : decode cX5_read 17 = .ok (.ifCond .ne 6, 3) := by decide +kernel
theorem dX5_read_20 : decode cX5_read 20 = .ok (.bipush (-2), 2) := by decide +kernel
theorem dX5_read_22 : decode cX5_read 22 = .ok (.ireturn, 1) := by decide +kernel
theorem dX5_read_23 : decode cX5_read 23 = .ok (.aload_n 0, 1) := by decide +kernel
theorem dX5_read_24 : decode cX5_read 24 = .ok (.getfield 29, 3) := by decide +kernel
theorem dX5_read_27 : decode cX5_read 27 = .ok (.aload_n 0, 1) := by decide +kernel
theorem dX5_read_28 : decode cX5_read 28 = .ok (.getfield 19, 3) := by decide +kernel
theorem dX5_read_31 : decode cX5_read 31 = .ok (.invokevirtual 101, 3) := by decide +kernel
theorem dX5_read_34 : decode cX5_read 34 = .ok (.aload_n 0, 1) := by decide +kernel
theorem dX5_read_35 : decode cX5_read 35 = .ok (.getfield 19, 3) := by decide +kernel
theorem dX5_read_38 : decode cX5_read 38 = .ok (.getfield 88, 3) := by decide +kernel
theorem dX5_read_41 : decode cX5_read 41 = .ok (.iload_n 1, 1) := by decide +kernel
theorem dX5_read_42 : decode cX5_read 42 = .ok (.iaload, 1) := by decide +kernel
theorem dX5_read_43 : decode cX5_read 43 = .ok (.istore_n 3, 1) := by decide +kernel
theorem dX5_read_44 : decode cX5_read 44 = .ok (.aload_n 0, 1) := by decide +kernel
theorem dX5_read_45 : decode cX5_read 45 = .ok (.getfield 19, 3) := by decide +kernel
theorem dX5_read_48 : decode cX5_read 48 = .ok (.getfield 88, 3) := by decide +kernel
theorem dX5_read_51 : decode cX5_read 51 = .ok (.iload_n 1, 1) := by decide +kernel
theorem dX5_read_52 : decode cX5_read 52 = .ok (.iload_n 2, 1) := by decide +kernel
theorem dX5_read_53 : decode cX5_read 53 = .ok (.iastore, 1) := by decide +kernel
theorem dX5_read_54 : decode cX5_read 54 = .ok (.iload_n 3, 1) := by decide +kernel
theorem dX5_read_55 : decode cX5_read 55 = .ok (.sipush 1000, 3) := by decide +kernel
theorem dX5_read_58 : decode cX5_read 58 = .ok (.iadd, 1) := by decide +kernel
theorem dX5_read_59 : decode cX5_read 59 = .ok (.ireturn, 1) := by decide +kernel
theorem dX5_master_0 : decode cX5_master 0 = .ok (.iload_n 1, 1) := by decide +kernel
theorem dX5_master_1 : decode cX5_master 1 = .ok (.ifCond .lt 9, 3) := by decide +kernel
theorem dX5_master_4 : decode cX5_master 4 = .ok (.iload_n 1, 1) := by decide +kernel
theorem dX5_master_5 : decode cX5_master 5 = .ok (.bipush 99, 2) := by decide +kernel
theorem dX5_master_7 : decode cX5_master 7 = .ok (.if_icmp .le 6, 3) := by decide +kernel
theorem dX5_master_10 : decode cX5_master 10 = .ok (.bipush (-2), 2) := by decide +kernel
theorem dX5_master_12 : decode cX5_master 12 = .ok (.ireturn, 1) := by decide +kernel
theorem dX5_master_13 : decode cX5_master 13 = .ok (.aload_n 0, 1) := by decide +kernel
theorem dX5_master_14 : decode cX5_master 14 = .ok (.getfield 29, 3) := by decide +kernel
theorem dX5_master_17 : decode cX5_master 17 = .ok (.aload_n 0, 1) := by decide +kernel
theorem dX5_master_18 : decode cX5_master 18 = .ok (.getfield 19, 3) := by decide +kernel
theorem dX5_master_21 : decode cX5_master 21 = .ok (.invokevirtual 101, 3) := by decide +kernel
theorem dX5_master_24 : decode cX5_master 24 = .ok (.aload_n 0, 1) := by decide +kernel
theorem dX5_master_25 : decode cX5_master 25 = .ok (.getfield 19, 3) := by decide +kernel
theorem dX5_master_28 : decode cX5_master 28 = .ok (.getfield 116, 3) := by decide +kernel
theorem dX5_master_31 : decode cX5_master 31 = .ok (.istore_n 2, 1) := by decide +kernel
theorem dX5_master_32 : decode cX5_master 32 = .ok (.aload_n 0, 1) := by decide +kernel
theorem dX5_master_33 : decode cX5_master 33 = .ok (.getfield 19, 3) := by decide +kernel
theorem dX5_master_36 : decode cX5_master 36 = .ok (.iload_n 1, 1) := by decide +kernel
theorem dX5_master_37 : decode cX5_master 37 = .ok (.putfield 116, 3) := by decide +kernel
theorem dX5_master_40 : decode cX5_master 40 = .ok (.iload_n 2, 1) := by decide +kernel
theorem dX5_master_41 : decode cX5_master 41 = .ok (.ireturn, 1) := by decide +kernel
theorem dX5_undo_0 : decode cX5_undo 0 = .ok (.aload_n 0, 1) := by decide +kernel
theorem dX5_undo_1 : decode cX5_undo 1 = .ok (.getfield 29, 3) := by decide +kernel
theorem dX5_undo_4 : decode cX5_undo 4 = .ok (.getfield 119, 3) := by decide +kernel
theorem dX5_undo_7 : decode cX5_undo 7 = .ok (.ifCond .ne 6, 3) := by decide +kernel
theorem dX5_undo_10 : decode cX5_undo 10 = .ok (.bipush (-3), 2) := by decide +kernel
theorem dX5_undo_12 : decode cX5_undo 12 = .ok (.ireturn, 1) := by decide +kernel
theorem dX5_undo_13 : decode cX5_undo 13 = .ok (.aload_n 0, 1) := by decide +kernel
theorem dX5_undo_14 : decode cX5_undo 14 = .ok (.getfield 29, 3) := by decide +kernel
theorem dX5_undo_17 : decode cX5_undo 17 = .ok (.aload_n 0, 1) := by decide +kernel
theorem dX5_undo_18 : decode cX5_undo 18 = .ok (.getfield 19, 3) := by decide +kernel
theorem dX5_undo_21 : decode cX5_undo 21 = .ok (.invokevirtual 122, 3) := by decide +kernel
theorem dX5_undo_24 : decode cX5_undo 24 = .ok (.aload_n 0, 1) := by decide +kernel
theorem dX5_undo_25 : decode cX5_undo 25 = .ok (.getfield 29, 3) := by decide +kernel
theorem dX5_undo_28 : decode cX5_undo 28 = .ok (.getfield 119, 3) := by decide +kernel
theorem dX5_undo_31 : decode cX5_undo 31 = .ok (.ireturn, 1) := by decide +kernel
theorem dX5_rank_0 : decode cX5_rank 0 = .ok (.aload_n 0, 1) := by decide +kernel
theorem dX5_rank_1 : decode cX5_rank 1 = .ok (.getfield 51, 3) := by decide +kernel
theorem dX5_rank_4 : decode cX5_rank 4 = .ok (.aload_n 0, 1) := by decide +kernel
theorem dX5_rank_5 : decode cX5_rank 5 = .ok (.getfield 19, 3) := by decide +kernel
theorem dX5_rank_8 : decode cX5_rank 8 = .ok (.iload_n 1, 1) := by decide +kernel
theorem dX5_rank_9 : decode cX5_rank 9 = .ok (.invokevirtual 125, 3) := by decide +kernel
theorem dX5_rank_12 : decode cX5_rank 12 = .ok (.ireturn, 1) := by decide +kernel
theorem dX5_value_0 : decode cX5_value 0 = .ok (.aload_n 0, 1) := by decide +kernel
theorem dX5_value_1 : decode cX5_value 1 = .ok (.getfield 19, 3) := by decide +kernel
theorem dX5_value_4 : decode cX5_value 4 = .ok (.iload_n 1, 1) := by decide +kernel
theorem dX5_value_5 : decode cX5_value 5 = .ok (.iload_n 2, 1) := by decide +kernel
theorem dX5_value_6 : decode cX5_value 6 = .ok (.invokevirtual 129, 3) := by decide +kernel
theorem dX5_value_9 : decode cX5_value 9 = .ok (.ifCond .ne 7, 3) := by decide +kernel
theorem dX5_value_12 : decode cX5_value 12 = .ok (.ldc2_w 133, 3) := by decide +kernel
theorem dX5_value_15 : decode cX5_value 15 = .ok (.lreturn, 1) := by decide +kernel
theorem dX5_value_16 : decode cX5_value 16 = .ok (.aload_n 0, 1) := by decide +kernel
theorem dX5_value_17 : decode cX5_value 17 = .ok (.getfield 44, 3) := by decide +kernel
theorem dX5_value_20 : decode cX5_value 20 = .ok (.aload_n 0, 1) := by decide +kernel
theorem dX5_value_21 : decode cX5_value 21 = .ok (.getfield 19, 3) := by decide +kernel
theorem dX5_value_24 : decode cX5_value 24 = .ok (.iload_n 2, 1) := by decide +kernel
theorem dX5_value_25 : decode cX5_value 25 = .ok (.invokevirtual 135, 3) := by decide +kernel
theorem dX5_value_28 : decode cX5_value 28 = .ok (.ifCond .ne 7, 3) := by decide +kernel
theorem dX5_value_31 : decode cX5_value 31 = .ok (.ldc2_w 139, 3) := by decide +kernel
theorem dX5_value_34 : decode cX5_value 34 = .ok (.lreturn, 1) := by decide +kernel
theorem dX5_value_35 : decode cX5_value 35 = .ok (.aload_n 0, 1) := by decide +kernel
theorem dX5_value_36 : decode cX5_value 36 = .ok (.getfield 44, 3) := by decide +kernel
theorem dX5_value_39 : decode cX5_value 39 = .ok (.iload_n 1, 1) := by decide +kernel
theorem dX5_value_40 : decode cX5_value 40 = .ok (.invokevirtual 141, 3) := by decide +kernel
theorem dX5_value_43 : decode cX5_value 43 = .ok (.aload_n 0, 1) := by decide +kernel
theorem dX5_value_44 : decode cX5_value 44 = .ok (.getfield 44, 3) := by decide +kernel
theorem dX5_value_47 : decode cX5_value 47 = .ok (.getfield 145, 3) := by decide +kernel
theorem dX5_value_50 : decode cX5_value 50 = .ok (.iload_n 3, 1) := by decide +kernel
theorem dX5_value_51 : decode cX5_value 51 = .ok (.invokestatic 148, 3) := by decide +kernel
theorem dX5_value_54 : decode cX5_value 54 = .ok (.lreturn, 1) := by decide +kernel
theorem dX5_spread_0 : decode cX5_spread 0 = .ok (.aload_n 0, 1) := by decide +kernel
theorem dX5_spread_1 : decode cX5_spread 1 = .ok (.getfield 19, 3) := by decide +kernel
theorem dX5_spread_4 : decode cX5_spread 4 = .ok (.iload_n 1, 1) := by decide +kernel
theorem dX5_spread_5 : decode cX5_spread 5 = .ok (.iload_n 2, 1) := by decide +kernel
theorem dX5_spread_6 : decode cX5_spread 6 = .ok (.invokevirtual 129, 3) := by decide +kernel
theorem dX5_spread_9 : decode cX5_spread 9 = .ok (.ifCond .ne 7, 3) := by decide +kernel
theorem dX5_spread_12 : decode cX5_spread 12 = .ok (.ldc2_w 133, 3) := by decide +kernel
theorem dX5_spread_15 : decode cX5_spread 15 = .ok (.lreturn, 1) := by decide +kernel
theorem dX5_spread_16 : decode cX5_spread 16 = .ok (.aload_n 0, 1) := by decide +kernel
theorem dX5_spread_17 : decode cX5_spread 17 = .ok (.getfield 44, 3) := by decide +kernel
theorem dX5_spread_20 : decode cX5_spread 20 = .ok (.aload_n 0, 1) := by decide +kernel
theorem dX5_spread_21 : decode cX5_spread 21 = .ok (.getfield 19, 3) := by decide +kernel
theorem dX5_spread_24 : decode cX5_spread 24 = .ok (.iload_n 2, 1) := by decide +kernel
theorem dX5_spread_25 : decode cX5_spread 25 = .ok (.invokevirtual 135, 3) := by decide +kernel
theorem dX5_spread_28 : decode cX5_spread 28 = .ok (.ifCond .ne 7, 3) := by decide +kernel
theorem dX5_spread_31 : decode cX5_spread 31 = .ok (.ldc2_w 139, 3) := by decide +kernel
theorem dX5_spread_34 : decode cX5_spread 34 = .ok (.lreturn, 1) := by decide +kernel
theorem dX5_spread_35 : decode cX5_spread 35 = .ok (.aload_n 0, 1) := by decide +kernel
theorem dX5_spread_36 : decode cX5_spread 36 = .ok (.getfield 44, 3) := by decide +kernel
theorem dX5_spread_39 : decode cX5_spread 39 = .ok (.iload_n 1, 1) := by decide +kernel
theorem dX5_spread_40 : decode cX5_spread 40 = .ok (.invokevirtual 152, 3) := by decide +kernel
theorem dX5_spread_43 : decode cX5_spread 43 = .ok (.aload_n 0, 1) := by decide +kernel
theorem dX5_spread_44 : decode cX5_spread 44 = .ok (.getfield 44, 3) := by decide +kernel
theorem dX5_spread_47 : decode cX5_spread 47 = .ok (.getfield 145, 3) := by decide +kernel
theorem dX5_spread_50 : decode cX5_spread 50 = .ok (.iload_n 3, 1) := by decide +kernel
theorem dX5_spread_51 : decode cX5_spread 51 = .ok (.invokestatic 148, 3) := by decide +kernel
theorem dX5_spread_54 : decode cX5_spread 54 = .ok (.lreturn, 1) := by decide +kernel
theorem dX5_total_0 : decode cX5_total 0 = .ok (.aload_n 0, 1) := by decide +kernel
theorem dX5_total_1 : decode cX5_total 1 = .ok (.getfield 44, 3) := by decide +kernel
theorem dX5_total_4 : decode cX5_total 4 = .ok (.aload_n 0, 1) := by decide +kernel
theorem dX5_total_5 : decode cX5_total 5 = .ok (.getfield 19, 3) := by decide +kernel
theorem dX5_total_8 : decode cX5_total 8 = .ok (.iload_n 1, 1) := by decide +kernel
theorem dX5_total_9 : decode cX5_total 9 = .ok (.invokevirtual 135, 3) := by decide +kernel
theorem dX5_total_12 : decode cX5_total 12 = .ok (.ifCond .ne 7, 3) := by decide +kernel
theorem dX5_total_15 : decode cX5_total 15 = .ok (.ldc2_w 139, 3) := by decide +kernel
theorem dX5_total_18 : decode cX5_total 18 = .ok (.lreturn, 1) := by decide +kernel
theorem dX5_total_19 : decode cX5_total 19 = .ok (.aload_n 0, 1) := by decide +kernel
theorem dX5_total_20 : decode cX5_total 20 = .ok (.getfield 44, 3) := by decide +kernel
theorem dX5_total_23 : decode cX5_total 23 = .ok (.invokevirtual 155, 3) := by decide +kernel
theorem dX5_total_26 : decode cX5_total 26 = .ok (.aload_n 0, 1) := by decide +kernel
theorem dX5_total_27 : decode cX5_total 27 = .ok (.getfield 44, 3) := by decide +kernel
theorem dX5_total_30 : decode cX5_total 30 = .ok (.getfield 145, 3) := by decide +kernel
theorem dX5_total_33 : decode cX5_total 33 = .ok (.iload_n 2, 1) := by decide +kernel
theorem dX5_total_34 : decode cX5_total 34 = .ok (.invokestatic 148, 3) := by decide +kernel
theorem dX5_total_37 : decode cX5_total 37 = .ok (.lreturn, 1) := by decide +kernel
theorem dX5_rest_0 : decode cX5_rest 0 = .ok (.aload_n 0, 1) := by decide +kernel
theorem dX5_rest_1 : decode cX5_rest 1 = .ok (.getfield 19, 3) := by decide +kernel
theorem dX5_rest_4 : decode cX5_rest 4 = .ok (.iload_n 1, 1) := by decide +kernel
theorem dX5_rest_5 : decode cX5_rest 5 = .ok (.invokevirtual 81, 3) := by decide +kernel
theorem dX5_rest_8 : decode cX5_rest 8 = .ok (.ifCond .ne 7, 3) := by decide +kernel
theorem dX5_rest_11 : decode cX5_rest 11 = .ok (.ldc2_w 133, 3) := by decide +kernel
theorem dX5_rest_14 : decode cX5_rest 14 = .ok (.lreturn, 1) := by decide +kernel
theorem dX5_rest_15 : decode cX5_rest 15 = .ok (.aload_n 0, 1) := by decide +kernel
theorem dX5_rest_16 : decode cX5_rest 16 = .ok (.getfield 44, 3) := by decide +kernel
theorem dX5_rest_19 : decode cX5_rest 19 = .ok (.aload_n 0, 1) := by decide +kernel
theorem dX5_rest_20 : decode cX5_rest 20 = .ok (.getfield 19, 3) := by decide +kernel
theorem dX5_rest_23 : decode cX5_rest 23 = .ok (.iload_n 2, 1) := by decide +kernel
theorem dX5_rest_24 : decode cX5_rest 24 = .ok (.invokevirtual 135, 3) := by decide +kernel
theorem dX5_rest_27 : decode cX5_rest 27 = .ok (.ifCond .ne 7, 3) := by decide +kernel
theorem dX5_rest_30 : decode cX5_rest 30 = .ok (.ldc2_w 139, 3) := by decide +kernel
theorem dX5_rest_33 : decode cX5_rest 33 = .ok (.lreturn, 1) := by decide +kernel
theorem dX5_rest_34 : decode cX5_rest 34 = .ok (.aload_n 0, 1) := by decide +kernel
theorem dX5_rest_35 : decode cX5_rest 35 = .ok (.getfield 44, 3) := by decide +kernel
theorem dX5_rest_38 : decode cX5_rest 38 = .ok (.aload_n 0, 1) := by decide +kernel
theorem dX5_rest_39 : decode cX5_rest 39 = .ok (.getfield 19, 3) := by decide +kernel
theorem dX5_rest_42 : decode cX5_rest 42 = .ok (.iload_n 1, 1) := by decide +kernel
theorem dX5_rest_43 : decode cX5_rest 43 = .ok (.invokevirtual 159, 3) := by decide +kernel
theorem dX5_rest_46 : decode cX5_rest 46 = .ok (.aload_n 0, 1) := by decide +kernel
theorem dX5_rest_47 : decode cX5_rest 47 = .ok (.getfield 44, 3) := by decide +kernel
theorem dX5_rest_50 : decode cX5_rest 50 = .ok (.getfield 145, 3) := by decide +kernel
theorem dX5_rest_53 : decode cX5_rest 53 = .ok (.iload_n 3, 1) := by decide +kernel
theorem dX5_rest_54 : decode cX5_rest 54 = .ok (.invokestatic 148, 3) := by decide +kernel
theorem dX5_rest_57 : decode cX5_rest 57 = .ok (.lreturn, 1) := by decide +kernel
theorem dX5_squares_0 : decode cX5_squares 0 = .ok (.aload_n 0, 1) := by decide +kernel
theorem dX5_squares_1 : decode cX5_squares 1 = .ok (.getfield 44, 3) := by decide +kernel
theorem dX5_squares_4 : decode cX5_squares 4 = .ok (.aload_n 0, 1) := by decide +kernel
theorem dX5_squares_5 : decode cX5_squares 5 = .ok (.getfield 19, 3) := by decide +kernel
theorem dX5_squares_8 : decode cX5_squares 8 = .ok (.iload_n 1, 1) := by decide +kernel
theorem dX5_squares_9 : decode cX5_squares 9 = .ok (.invokevirtual 135, 3) := by decide +kernel
theorem dX5_squares_12 : decode cX5_squares 12 = .ok (.ifCond .ne 7, 3) := by decide +kernel
theorem dX5_squares_15 : decode cX5_squares 15 = .ok (.ldc2_w 139, 3) := by decide +kernel
theorem dX5_squares_18 : decode cX5_squares 18 = .ok (.lreturn, 1) := by decide +kernel
theorem dX5_squares_19 : decode cX5_squares 19 = .ok (.aload_n 0, 1) := by decide +kernel
theorem dX5_squares_20 : decode cX5_squares 20 = .ok (.getfield 44, 3) := by decide +kernel
theorem dX5_squares_23 : decode cX5_squares 23 = .ok (.invokevirtual 163, 3) := by decide +kernel
theorem dX5_squares_26 : decode cX5_squares 26 = .ok (.aload_n 0, 1) := by decide +kernel
theorem dX5_squares_27 : decode cX5_squares 27 = .ok (.getfield 44, 3) := by decide +kernel
theorem dX5_squares_30 : decode cX5_squares 30 = .ok (.getfield 145, 3) := by decide +kernel
theorem dX5_squares_33 : decode cX5_squares 33 = .ok (.iload_n 2, 1) := by decide +kernel
theorem dX5_squares_34 : decode cX5_squares 34 = .ok (.invokestatic 148, 3) := by decide +kernel
theorem dX5_squares_37 : decode cX5_squares 37 = .ok (.lreturn, 1) := by decide +kernel
theorem dX5_next_0 : decode cX5_next 0 = .ok (.aload_n 0, 1) := by decide +kernel
theorem dX5_next_1 : decode cX5_next 1 = .ok (.getfield 19, 3) := by decide +kernel
theorem dX5_next_4 : decode cX5_next 4 = .ok (.getfield 78, 3) := by decide +kernel
theorem dX5_next_7 : decode cX5_next 7 = .ok (.bipush 8, 2) := by decide +kernel
theorem dX5_next_9 : decode cX5_next 9 = .ok (.if_icmp .lt 6, 3) := by decide +kernel
theorem dX5_next_12 : decode cX5_next 12 = .ok (.bipush (-4), 2) := by decide +kernel
theorem dX5_next_14 : decode cX5_next 14 = .ok (.ireturn, 1) := by decide +kernel
theorem dX5_next_15 : decode cX5_next 15 = .ok (.aload_n 0, 1) := by decide +kernel
theorem dX5_next_16 : decode cX5_next 16 = .ok (.getfield 23, 3) := by decide +kernel
theorem dX5_next_19 : decode cX5_next 19 = .ok (.aload_n 0, 1) := by decide +kernel
theorem dX5_next_20 : decode cX5_next 20 = .ok (.getfield 19, 3) := by decide +kernel
theorem dX5_next_23 : decode cX5_next 23 = .ok (.invokevirtual 166, 3) := by decide +kernel
theorem dX5_next_26 : decode cX5_next 26 = .ok (.aload_n 0, 1) := by decide +kernel
theorem dX5_next_27 : decode cX5_next 27 = .ok (.getfield 23, 3) := by decide +kernel
theorem dX5_next_30 : decode cX5_next 30 = .ok (.iconst 0, 1) := by decide +kernel
theorem dX5_next_31 : decode cX5_next 31 = .ok (.iconst 0, 1) := by decide +kernel
theorem dX5_next_32 : decode cX5_next 32 = .ok (.invokevirtual 105, 3) := by decide +kernel
theorem dX5_next_35 : decode cX5_next 35 = .ok (.aload_n 0, 1) := by decide +kernel
theorem dX5_next_36 : decode cX5_next 36 = .ok (.getfield 23, 3) := by decide +kernel
theorem dX5_next_39 : decode cX5_next 39 = .ok (.getfield 78, 3) := by decide +kernel
theorem dX5_next_42 : decode cX5_next 42 = .ok (.iconst 1, 1) := by decide +kernel
theorem dX5_next_43 : decode cX5_next 43 = .ok (.isub, 1) := by decide +kernel
theorem dX5_next_44 : decode cX5_next 44 = .ok (.istore_n 2, 1) := by decide +kernel
theorem dX5_next_45 : decode cX5_next 45 = .ok (.iconst 3, 1) := by decide +kernel
theorem dX5_next_46 : decode cX5_next 46 = .ok (.aload_n 0, 1) := by decide +kernel
theorem dX5_next_47 : decode cX5_next 47 = .ok (.getfield 19, 3) := by decide +kernel
theorem dX5_next_50 : decode cX5_next 50 = .ok (.getfield 91, 3) := by decide +kernel
theorem dX5_next_53 : decode cX5_next 53 = .ok (.invokestatic 169, 3) := by decide +kernel
theorem dX5_next_56 : decode cX5_next 56 = .ok (.istore_n 3, 1) := by decide +kernel
theorem dX5_next_57 : decode cX5_next 57 = .ok (.bipush (-9), 2) := by decide +kernel
theorem dX5_next_59 : decode cX5_next 59 = .ok (.istore 4, 2) := by decide +kernel
theorem dX5_next_61 : decode cX5_next 61 = .ok (.lconst 0, 1) := by decide +kernel
theorem dX5_next_62 : decode cX5_next 62 = .ok (.lstore 5, 2) := by decide +kernel
theorem dX5_next_64 : decode cX5_next 64 = .ok (.lconst 1, 1) := by decide +kernel
theorem dX5_next_65 : decode cX5_next 65 = .ok (.lstore 7, 2) := by decide +kernel
theorem dX5_next_67 : decode cX5_next 67 = .ok (.aload_n 0, 1) := by decide +kernel
theorem dX5_next_68 : decode cX5_next 68 = .ok (.getfield 44, 3) := by decide +kernel
theorem dX5_next_71 : decode cX5_next 71 = .ok (.aload_n 0, 1) := by decide +kernel
theorem dX5_next_72 : decode cX5_next 72 = .ok (.getfield 19, 3) := by decide +kernel
theorem dX5_next_75 : decode cX5_next 75 = .ok (.iload_n 1, 1) := by decide +kernel
theorem dX5_next_76 : decode cX5_next 76 = .ok (.invokevirtual 173, 3) := by decide +kernel
theorem dX5_next_79 : decode cX5_next 79 = .ok (.iconst 0, 1) := by decide +kernel
theorem dX5_next_80 : decode cX5_next 80 = .ok (.istore 9, 2) := by decide +kernel
theorem dX5_next_82 : decode cX5_next 82 = .ok (.iload 9, 2) := by decide +kernel
theorem dX5_next_84 : decode cX5_next 84 = .ok (.iload_n 3, 1) := by decide +kernel
theorem dX5_next_85 : decode cX5_next 85 = .ok (.if_icmp .ge 105, 3) := by decide +kernel
theorem dX5_next_88 : decode cX5_next 88 = .ok (.aload_n 0, 1) := by decide +kernel
theorem dX5_next_89 : decode cX5_next 89 = .ok (.getfield 23, 3) := by decide +kernel
theorem dX5_next_92 : decode cX5_next 92 = .ok (.getfield 85, 3) := by decide +kernel
theorem dX5_next_95 : decode cX5_next 95 = .ok (.iload_n 2, 1) := by decide +kernel
theorem dX5_next_96 : decode cX5_next 96 = .ok (.iload 9, 2) := by decide +kernel
theorem dX5_next_98 : decode cX5_next 98 = .ok (.aload_n 0, 1) := by decide +kernel
theorem dX5_next_99 : decode cX5_next 99 = .ok (.getfield 19, 3) := by decide +kernel
theorem dX5_next_102 : decode cX5_next 102 = .ok (.getfield 91, 3) := by decide +kernel
theorem dX5_next_105 : decode cX5_next 105 = .ok (.invokestatic 177, 3) := by decide +kernel
theorem dX5_next_108 : decode cX5_next 108 = .ok (.iastore, 1) := by decide +kernel
theorem dX5_next_109 : decode cX5_next 109 = .ok (.aload_n 0, 1) := by decide +kernel
theorem dX5_next_110 : decode cX5_next 110 = .ok (.getfield 44, 3) := by decide +kernel
theorem dX5_next_113 : decode cX5_next 113 = .ok (.aload_n 0, 1) := by decide +kernel
theorem dX5_next_114 : decode cX5_next 114 = .ok (.getfield 23, 3) := by decide +kernel
theorem dX5_next_117 : decode cX5_next 117 = .ok (.iload_n 2, 1) := by decide +kernel
theorem dX5_next_118 : decode cX5_next 118 = .ok (.invokevirtual 180, 3) := by decide +kernel
theorem dX5_next_121 : decode cX5_next 121 = .ok (.ifCond .eq 63, 3) := by decide +kernel
theorem dX5_next_124 : decode cX5_next 124 = .ok (.iload 4, 2) := by decide +kernel
theorem dX5_next_126 : decode cX5_next 126 = .ok (.bipush (-9), 2) := by decide +kernel
theorem dX5_next_128 : decode cX5_next 128 = .ok (.if_icmp .eq 27, 3) := by decide +kernel
theorem dX5_next_131 : decode cX5_next 131 = .ok (.aload_n 0, 1) := by decide +kernel
theorem dX5_next_132 : decode cX5_next 132 = .ok (.getfield 44, 3) := by decide +kernel
theorem dX5_next_135 : decode cX5_next 135 = .ok (.invokevirtual 155, 3) := by decide +kernel
theorem dX5_next_138 : decode cX5_next 138 = .ok (.aload_n 0, 1) := by decide +kernel
theorem dX5_next_139 : decode cX5_next 139 = .ok (.getfield 44, 3) := by decide +kernel
theorem dX5_next_142 : decode cX5_next 142 = .ok (.getfield 145, 3) := by decide +kernel
theorem dX5_next_145 : decode cX5_next 145 = .ok (.lload 5, 2) := by decide +kernel
theorem dX5_next_147 : decode cX5_next 147 = .ok (.lload 7, 2) := by decide +kernel
theorem dX5_next_149 : decode cX5_next 149 = .ok (.invokestatic 184, 3) := by decide +kernel
theorem dX5_next_152 : decode cX5_next 152 = .ok (.ifCond .eq 32, 3) := by decide +kernel
theorem dX5_next_155 : decode cX5_next 155 = .ok (.aload_n 0, 1) := by decide +kernel
theorem dX5_next_156 : decode cX5_next 156 = .ok (.getfield 23, 3) := by decide +kernel
theorem dX5_next_159 : decode cX5_next 159 = .ok (.getfield 85, 3) := by decide +kernel
theorem dX5_next_162 : decode cX5_next 162 = .ok (.iload_n 2, 1) := by decide +kernel
theorem dX5_next_163 : decode cX5_next 163 = .ok (.iaload, 1) := by decide +kernel
theorem dX5_next_164 : decode cX5_next 164 = .ok (.istore 4, 2) := by decide +kernel
theorem dX5_next_166 : decode cX5_next 166 = .ok (.aload_n 0, 1) := by decide +kernel
theorem dX5_next_167 : decode cX5_next 167 = .ok (.getfield 44, 3) := by decide +kernel
theorem dX5_next_170 : decode cX5_next 170 = .ok (.invokevirtual 155, 3) := by decide +kernel
theorem dX5_next_173 : decode cX5_next 173 = .ok (.lstore 5, 2) := by decide +kernel
theorem dX5_next_175 : decode cX5_next 175 = .ok (.aload_n 0, 1) := by decide +kernel
theorem dX5_next_176 : decode cX5_next 176 = .ok (.getfield 44, 3) := by decide +kernel
theorem dX5_next_179 : decode cX5_next 179 = .ok (.getfield 145, 3) := by decide +kernel
theorem dX5_next_182 : decode cX5_next 182 = .ok (.lstore 7, 2) := by decide +kernel
theorem dX5_next_184 : decode cX5_next 184 = .ok (.iinc 9 1, 3) := by decide +kernel
theorem dX5_next_187 : decode cX5_next 187 = .ok (.goto (-105), 3) := by decide +kernel
theorem dX5_next_190 : decode cX5_next 190 = .ok (.iload 4, 2) := by decide +kernel
theorem dX5_next_192 : decode cX5_next 192 = .ok (.ireturn, 1) := by decide +kernel
theorem dX5_better_0 : decode cX5_better 0 = .ok (.aload_n 0, 1) := by decide +kernel
theorem dX5_better_1 : decode cX5_better 1 = .ok (.getfield 44, 3) := by decide +kernel
theorem dX5_better_4 : decode cX5_better 4 = .ok (.aload_n 0, 1) := by decide +kernel
theorem dX5_better_5 : decode cX5_better 5 = .ok (.getfield 19, 3) := by decide +kernel
theorem dX5_better_8 : decode cX5_better 8 = .ok (.iconst 1, 1) := by decide +kernel
theorem dX5_better_9 : decode cX5_better 9 = .ok (.invokevirtual 135, 3) := by decide +kernel
theorem dX5_better_12 : decode cX5_better 12 = .ok (.ifCond .ne 6, 3) := by decide +kernel
theorem dX5_better_15 : decode cX5_better 15 = .ok (.bipush (-3), 2) := by decide +kernel
theorem dX5_better_17 : decode cX5_better 17 = .ok (.ireturn, 1) := by decide +kernel
theorem dX5_better_18 : decode cX5_better 18 = .ok (.bipush (-9), 2) := by decide +kernel
theorem dX5_better_20 : decode cX5_better 20 = .ok (.istore_n 1, 1) := by decide +kernel
theorem dX5_better_21 : decode cX5_better 21 = .ok (.aload_n 0, 1) := by decide +kernel
theorem dX5_better_22 : decode cX5_better 22 = .ok (.getfield 44, 3) := by decide +kernel
theorem dX5_better_25 : decode cX5_better 25 = .ok (.invokevirtual 155, 3) := by decide +kernel
theorem dX5_better_28 : decode cX5_better 28 = .ok (.lstore_n 2, 1) := by decide +kernel
theorem dX5_better_29 : decode cX5_better 29 = .ok (.aload_n 0, 1) := by decide +kernel
theorem dX5_better_30 : decode cX5_better 30 = .ok (.getfield 44, 3) := by decide +kernel
theorem dX5_better_33 : decode cX5_better 33 = .ok (.getfield 145, 3) := by decide +kernel
theorem dX5_better_36 : decode cX5_better 36 = .ok (.lstore 4, 2) := by decide +kernel
theorem dX5_better_38 : decode cX5_better 38 = .ok (.iconst 0, 1) := by decide +kernel
theorem dX5_better_39 : decode cX5_better 39 = .ok (.istore 6, 2) := by decide +kernel
theorem dX5_better_41 : decode cX5_better 41 = .ok (.iload 6, 2) := by decide +kernel
theorem dX5_better_43 : decode cX5_better 43 = .ok (.aload_n 0, 1) := by decide +kernel
theorem dX5_better_44 : decode cX5_better 44 = .ok (.getfield 19, 3) := by decide +kernel
theorem dX5_better_47 : decode cX5_better 47 = .ok (.getfield 78, 3) := by decide +kernel
theorem dX5_better_50 : decode cX5_better 50 = .ok (.if_icmp .ge 119, 3) := by decide +kernel
theorem dX5_better_53 : decode cX5_better 53 = .ok (.iload 6, 2) := by decide +kernel
theorem dX5_better_55 : decode cX5_better 55 = .ok (.iconst 1, 1) := by decide +kernel
theorem dX5_better_56 : decode cX5_better 56 = .ok (.iadd, 1) := by decide +kernel
theorem dX5_better_57 : decode cX5_better 57 = .ok (.istore 7, 2) := by decide +kernel
theorem dX5_better_59 : decode cX5_better 59 = .ok (.iload 7, 2) := by decide +kernel
theorem dX5_better_61 : decode cX5_better 61 = .ok (.aload_n 0, 1) := by decide +kernel
theorem dX5_better_62 : decode cX5_better 62 = .ok (.getfield 19, 3) := by decide +kernel
theorem dX5_better_65 : decode cX5_better 65 = .ok (.getfield 78, 3) := by decide +kernel
theorem dX5_better_68 : decode cX5_better 68 = .ok (.if_icmp .ge 95, 3) := by decide +kernel
theorem dX5_better_71 : decode cX5_better 71 = .ok (.aload_n 0, 1) := by decide +kernel
theorem dX5_better_72 : decode cX5_better 72 = .ok (.getfield 23, 3) := by decide +kernel
theorem dX5_better_75 : decode cX5_better 75 = .ok (.aload_n 0, 1) := by decide +kernel
theorem dX5_better_76 : decode cX5_better 76 = .ok (.getfield 19, 3) := by decide +kernel
theorem dX5_better_79 : decode cX5_better 79 = .ok (.invokevirtual 166, 3) := by decide +kernel
theorem dX5_better_82 : decode cX5_better 82 = .ok (.aload_n 0, 1) := by decide +kernel
theorem dX5_better_83 : decode cX5_better 83 = .ok (.getfield 23, 3) := by decide +kernel
theorem dX5_better_86 : decode cX5_better 86 = .ok (.iload 6, 2) := by decide +kernel
theorem dX5_better_88 : decode cX5_better 88 = .ok (.iload 7, 2) := by decide +kernel
theorem dX5_better_90 : decode cX5_better 90 = .ok (.invokevirtual 113, 3) := by decide +kernel
theorem dX5_better_93 : decode cX5_better 93 = .ok (.aload_n 0, 1) := by decide +kernel
theorem dX5_better_94 : decode cX5_better 94 = .ok (.getfield 44, 3) := by decide +kernel
theorem dX5_better_97 : decode cX5_better 97 = .ok (.aload_n 0, 1) := by decide +kernel
theorem dX5_better_98 : decode cX5_better 98 = .ok (.getfield 23, 3) := by decide +kernel
theorem dX5_better_101 : decode cX5_better 101 = .ok (.iconst 1, 1) := by decide +kernel
theorem dX5_better_102 : decode cX5_better 102 = .ok (.invokevirtual 135, 3) := by decide +kernel
theorem dX5_better_105 : decode cX5_better 105 = .ok (.ifCond .eq 52, 3) := by decide +kernel
theorem dX5_better_108 : decode cX5_better 108 = .ok (.aload_n 0, 1) := by decide +kernel
theorem dX5_better_109 : decode cX5_better 109 = .ok (.getfield 44, 3) := by decide +kernel
theorem dX5_better_112 : decode cX5_better 112 = .ok (.invokevirtual 155, 3) := by decide +kernel
theorem dX5_better_115 : decode cX5_better 115 = .ok (.aload_n 0, 1) := by decide +kernel
theorem dX5_better_116 : decode cX5_better 116 = .ok (.getfield 44, 3) := by decide +kernel
theorem dX5_better_119 : decode cX5_better 119 = .ok (.getfield 145, 3) := by decide +kernel
theorem dX5_better_122 : decode cX5_better 122 = .ok (.lload_n 2, 1) := by decide +kernel
theorem dX5_better_123 : decode cX5_better 123 = .ok (.lload 4, 2) := by decide +kernel
theorem dX5_better_125 : decode cX5_better 125 = .ok (.invokestatic 184, 3) := by decide +kernel
theorem dX5_better_128 : decode cX5_better 128 = .ok (.ifCond .eq 29, 3) := by decide +kernel
theorem dX5_better_131 : decode cX5_better 131 = .ok (.bipush 10, 2) := by decide +kernel
theorem dX5_better_133 : decode cX5_better 133 = .ok (.iload 6, 2) := by decide +kernel
theorem dX5_better_135 : decode cX5_better 135 = .ok (.imul, 1) := by decide +kernel
theorem dX5_better_136 : decode cX5_better 136 = .ok (.iload 7, 2) := by decide +kernel
theorem dX5_better_138 : decode cX5_better 138 = .ok (.iadd, 1) := by decide +kernel
theorem dX5_better_139 : decode cX5_better 139 = .ok (.istore_n 1, 1) := by decide +kernel
theorem dX5_better_140 : decode cX5_better 140 = .ok (.aload_n 0, 1) := by decide +kernel
theorem dX5_better_141 : decode cX5_better 141 = .ok (.getfield 44, 3) := by decide +kernel
theorem dX5_better_144 : decode cX5_better 144 = .ok (.invokevirtual 155, 3) := by decide +kernel
theorem dX5_better_147 : decode cX5_better 147 = .ok (.lstore_n 2, 1) := by decide +kernel
theorem dX5_better_148 : decode cX5_better 148 = .ok (.aload_n 0, 1) := by decide +kernel
theorem dX5_better_149 : decode cX5_better 149 = .ok (.getfield 44, 3) := by decide +kernel
theorem dX5_better_152 : decode cX5_better 152 = .ok (.getfield 145, 3) := by decide +kernel
theorem dX5_better_155 : decode cX5_better 155 = .ok (.lstore 4, 2) := by decide +kernel
theorem dX5_better_157 : decode cX5_better 157 = .ok (.iinc 7 1, 3) := by decide +kernel
theorem dX5_better_160 : decode cX5_better 160 = .ok (.goto (-101), 3) := by decide +kernel
theorem dX5_better_163 : decode cX5_better 163 = .ok (.iinc 6 1, 3) := by decide +kernel
theorem dX5_better_166 : decode cX5_better 166 = .ok (.goto (-125), 3) := by decide +kernel
theorem dX5_better_169 : decode cX5_better 169 = .ok (.iload_n 1, 1) := by decide +kernel
theorem dX5_better_170 : decode cX5_better 170 = .ok (.ireturn, 1) := by decide +kernel
theorem dX5_doubtful_0 : decode cX5_doubtful 0 = .ok (.aload_n 0, 1) := by decide +kernel
theorem dX5_doubtful_1 : decode cX5_doubtful 1 = .ok (.getfield 44, 3) := by decide +kernel
theorem dX5_doubtful_4 : decode cX5_doubtful 4 = .ok (.aload_n 0, 1) := by decide +kernel
theorem dX5_doubtful_5 : decode cX5_doubtful 5 = .ok (.getfield 19, 3) := by decide +kernel
theorem dX5_doubtful_8 : decode cX5_doubtful 8 = .ok (.iload_n 1, 1) := by decide +kernel
theorem dX5_doubtful_9 : decode cX5_doubtful 9 = .ok (.invokevirtual 188, 3) := by decide +kernel
theorem dX5_doubtful_12 : decode cX5_doubtful 12 = .ok (.ireturn, 1) := by decide +kernel
theorem dX5_wrong_0 : decode cX5_wrong 0 = .ok (.aload_n 0, 1) := by decide +kernel
theorem dX5_wrong_1 : decode cX5_wrong 1 = .ok (.getfield 44, 3) := by decide +kernel
theorem dX5_wrong_4 : decode cX5_wrong 4 = .ok (.aload_n 0, 1) := by decide +kernel
theorem dX5_wrong_5 : decode cX5_wrong 5 = .ok (.getfield 19, 3) := by decide +kernel
theorem dX5_wrong_8 : decode cX5_wrong 8 = .ok (.iload_n 1, 1) := by decide +kernel
theorem dX5_wrong_9 : decode cX5_wrong 9 = .ok (.invokevirtual 191, 3) := by decide +kernel
theorem dX5_wrong_12 : decode cX5_wrong 12 = .ok (.ireturn, 1) := by decide +kernel
theorem dX5_judge_0 : decode cX5_judge 0 = .ok (.iload_n 1, 1) := by decide +kernel
theorem dX5_judge_1 : decode cX5_judge 1 = .ok (.iconst 1, 1) := by decide +kernel
theorem dX5_judge_2 : decode cX5_judge 2 = .ok (.if_icmp .lt 14, 3) := by decide +kernel
theorem dX5_judge_5 : decode cX5_judge 5 = .ok (.iload_n 1, 1) := by decide +kernel
theorem dX5_judge_6 : decode cX5_judge 6 = .ok (.iconst 4, 1) := by decide +kernel
theorem dX5_judge_7 : decode cX5_judge 7 = .ok (.if_icmp .gt 9, 3) := by decide +kernel
theorem dX5_judge_10 : decode cX5_judge 10 = .ok (.lload_n 2, 1) := by decide +kernel
theorem dX5_judge_11 : decode cX5_judge 11 = .ok (.lconst 0, 1) := by decide +kernel
theorem dX5_judge_12 : decode cX5_judge 12 = .ok (.lcmp, 1) := by decide +kernel
theorem dX5_judge_13 : decode cX5_judge 13 = .ok (.ifCond .ge 6, 3) := by decide +kernel
theorem dX5_judge_16 : decode cX5_judge 16 = .ok (.bipush (-2), 2) := by decide +kernel
theorem dX5_judge_18 : decode cX5_judge 18 = .ok (.ireturn, 1) := by decide +kernel
theorem dX5_judge_19 : decode cX5_judge 19 = .ok (.lconst 1, 1) := by decide +kernel
theorem dX5_judge_20 : decode cX5_judge 20 = .ok (.lstore 4, 2) := by decide +kernel
theorem dX5_judge_22 : decode cX5_judge 22 = .ok (.iconst 1, 1) := by decide +kernel
theorem dX5_judge_23 : decode cX5_judge 23 = .ok (.istore 6, 2) := by decide +kernel
theorem dX5_judge_25 : decode cX5_judge 25 = .ok (.iload 6, 2) := by decide +kernel
theorem dX5_judge_27 : decode cX5_judge 27 = .ok (.iload_n 1, 1) := by decide +kernel
theorem dX5_judge_28 : decode cX5_judge 28 = .ok (.if_icmp .ge 17, 3) := by decide +kernel
theorem dX5_judge_31 : decode cX5_judge 31 = .ok (.lload 4, 2) := by decide +kernel
theorem dX5_judge_33 : decode cX5_judge 33 = .ok (.ldc2_w 194, 3) := by decide +kernel
theorem dX5_judge_36 : decode cX5_judge 36 = .ok (.lmul, 1) := by decide +kernel
theorem dX5_judge_37 : decode cX5_judge 37 = .ok (.lstore 4, 2) := by decide +kernel
theorem dX5_judge_39 : decode cX5_judge 39 = .ok (.iinc 6 1, 3) := by decide +kernel
theorem dX5_judge_42 : decode cX5_judge 42 = .ok (.goto (-17), 3) := by decide +kernel
theorem dX5_judge_45 : decode cX5_judge 45 = .ok (.lload_n 2, 1) := by decide +kernel
theorem dX5_judge_46 : decode cX5_judge 46 = .ok (.lload 4, 2) := by decide +kernel
theorem dX5_judge_48 : decode cX5_judge 48 = .ok (.ldiv, 1) := by decide +kernel
theorem dX5_judge_49 : decode cX5_judge 49 = .ok (.ldc2_w 194, 3) := by decide +kernel
theorem dX5_judge_52 : decode cX5_judge 52 = .ok (.lcmp, 1) := by decide +kernel
theorem dX5_judge_53 : decode cX5_judge 53 = .ok (.ifCond .lt 6, 3) := by decide +kernel
theorem dX5_judge_56 : decode cX5_judge 56 = .ok (.bipush (-2), 2) := by decide +kernel
theorem dX5_judge_58 : decode cX5_judge 58 = .ok (.ireturn, 1) := by decide +kernel
theorem dX5_judge_59 : decode cX5_judge 59 = .ok (.aload_n 0, 1) := by decide +kernel
theorem dX5_judge_60 : decode cX5_judge 60 = .ok (.getfield 23, 3) := by decide +kernel
theorem dX5_judge_63 : decode cX5_judge 63 = .ok (.aload_n 0, 1) := by decide +kernel
theorem dX5_judge_64 : decode cX5_judge 64 = .ok (.getfield 19, 3) := by decide +kernel
theorem dX5_judge_67 : decode cX5_judge 67 = .ok (.invokevirtual 166, 3) := by decide +kernel
theorem dX5_judge_70 : decode cX5_judge 70 = .ok (.iconst 0, 1) := by decide +kernel
theorem dX5_judge_71 : decode cX5_judge 71 = .ok (.istore 6, 2) := by decide +kernel
theorem dX5_judge_73 : decode cX5_judge 73 = .ok (.iload 6, 2) := by decide +kernel
theorem dX5_judge_75 : decode cX5_judge 75 = .ok (.iload_n 1, 1) := by decide +kernel
theorem dX5_judge_76 : decode cX5_judge 76 = .ok (.if_icmp .ge 43, 3) := by decide +kernel
theorem dX5_judge_79 : decode cX5_judge 79 = .ok (.lload 4, 2) := by decide +kernel
theorem dX5_judge_81 : decode cX5_judge 81 = .ok (.lconst 0, 1) := by decide +kernel
theorem dX5_judge_82 : decode cX5_judge 82 = .ok (.lcmp, 1) := by decide +kernel
theorem dX5_judge_83 : decode cX5_judge 83 = .ok (.ifCond .le 36, 3) := by decide +kernel
theorem dX5_judge_86 : decode cX5_judge 86 = .ok (.aload_n 0, 1) := by decide +kernel
theorem dX5_judge_87 : decode cX5_judge 87 = .ok (.lload_n 2, 1) := by decide +kernel
theorem dX5_judge_88 : decode cX5_judge 88 = .ok (.lload 4, 2) := by decide +kernel
theorem dX5_judge_90 : decode cX5_judge 90 = .ok (.ldiv, 1) := by decide +kernel
theorem dX5_judge_91 : decode cX5_judge 91 = .ok (.ldc2_w 194, 3) := by decide +kernel
theorem dX5_judge_94 : decode cX5_judge 94 = .ok (.lrem, 1) := by decide +kernel
theorem dX5_judge_95 : decode cX5_judge 95 = .ok (.l2i, 1) := by decide +kernel
theorem dX5_judge_96 : decode cX5_judge 96 = .ok (.invokevirtual 196, 3) := by decide +kernel
theorem dX5_judge_99 : decode cX5_judge 99 = .ok (.ifCond .ne 6, 3) := by decide +kernel
theorem dX5_judge_102 : decode cX5_judge 102 = .ok (.iload 6, 2) := by decide +kernel
theorem dX5_judge_104 : decode cX5_judge 104 = .ok (.ireturn, 1) := by decide +kernel
theorem dX5_judge_105 : decode cX5_judge 105 = .ok (.lload 4, 2) := by decide +kernel
theorem dX5_judge_107 : decode cX5_judge 107 = .ok (.ldc2_w 194, 3) := by decide +kernel
theorem dX5_judge_110 : decode cX5_judge 110 = .ok (.ldiv, 1) := by decide +kernel
theorem dX5_judge_111 : decode cX5_judge 111 = .ok (.lstore 4, 2) := by decide +kernel
theorem dX5_judge_113 : decode cX5_judge 113 = .ok (.iinc 6 1, 3) := by decide +kernel
theorem dX5_judge_116 : decode cX5_judge 116 = .ok (.goto (-43), 3) := by decide +kernel
theorem dX5_judge_119 : decode cX5_judge 119 = .ok (.bipush (-9), 2) := by decide +kernel
theorem dX5_judge_121 : decode cX5_judge 121 = .ok (.ireturn, 1) := by decide +kernel
theorem dX5_share_0 : decode cX5_share 0 = .ok (.aload_n 0, 1) := by decide +kernel
theorem dX5_share_1 : decode cX5_share 1 = .ok (.getfield 19, 3) := by decide +kernel
theorem dX5_share_4 : decode cX5_share 4 = .ok (.iload_n 1, 1) := by decide +kernel
theorem dX5_share_5 : decode cX5_share 5 = .ok (.invokevirtual 81, 3) := by decide +kernel
theorem dX5_share_8 : decode cX5_share 8 = .ok (.ifCond .ne 5, 3) := by decide +kernel
theorem dX5_share_11 : decode cX5_share 11 = .ok (.iconst (-1), 1) := by decide +kernel
theorem dX5_share_12 : decode cX5_share 12 = .ok (.ireturn, 1) := by decide +kernel
theorem dX5_share_13 : decode cX5_share 13 = .ok (.aload_n 0, 1) := by decide +kernel
theorem dX5_share_14 : decode cX5_share 14 = .ok (.getfield 51, 3) := by decide +kernel
theorem dX5_share_17 : decode cX5_share 17 = .ok (.aload_n 0, 1) := by decide +kernel
theorem dX5_share_18 : decode cX5_share 18 = .ok (.getfield 19, 3) := by decide +kernel
theorem dX5_share_21 : decode cX5_share 21 = .ok (.iload_n 2, 1) := by decide +kernel
theorem dX5_share_22 : decode cX5_share 22 = .ok (.invokevirtual 199, 3) := by decide +kernel
theorem dX5_share_25 : decode cX5_share 25 = .ok (.aload_n 0, 1) := by decide +kernel
theorem dX5_share_26 : decode cX5_share 26 = .ok (.getfield 19, 3) := by decide +kernel
theorem dX5_share_29 : decode cX5_share 29 = .ok (.getfield 78, 3) := by decide +kernel
theorem dX5_share_32 : decode cX5_share 32 = .ok (.istore 4, 2) := by decide +kernel
theorem dX5_share_34 : decode cX5_share 34 = .ok (.iconst 1, 1) := by decide +kernel
theorem dX5_share_35 : decode cX5_share 35 = .ok (.iload_n 1, 1) := by decide +kernel
theorem dX5_share_36 : decode cX5_share 36 = .ok (.ishl, 1) := by decide +kernel
theorem dX5_share_37 : decode cX5_share 37 = .ok (.istore 5, 2) := by decide +kernel
theorem dX5_share_39 : decode cX5_share 39 = .ok (.lconst 0, 1) := by decide +kernel
theorem dX5_share_40 : decode cX5_share 40 = .ok (.lstore 6, 2) := by decide +kernel
theorem dX5_share_42 : decode cX5_share 42 = .ok (.iconst 0, 1) := by decide +kernel
theorem dX5_share_43 : decode cX5_share 43 = .ok (.istore 8, 2) := by decide +kernel
theorem dX5_share_45 : decode cX5_share 45 = .ok (.iload 8, 2) := by decide +kernel
theorem dX5_share_47 : decode cX5_share 47 = .ok (.iconst 1, 1) := by decide +kernel
theorem dX5_share_48 : decode cX5_share 48 = .ok (.iload 4, 2) := by decide +kernel
theorem dX5_share_50 : decode cX5_share 50 = .ok (.ishl, 1) := by decide +kernel
theorem dX5_share_51 : decode cX5_share 51 = .ok (.if_icmp .ge 75, 3) := by decide +kernel
theorem dX5_share_54 : decode cX5_share 54 = .ok (.iload 8, 2) := by decide +kernel
theorem dX5_share_56 : decode cX5_share 56 = .ok (.iload 5, 2) := by decide +kernel
theorem dX5_share_58 : decode cX5_share 58 = .ok (.iand, 1) := by decide +kernel
theorem dX5_share_59 : decode cX5_share 59 = .ok (.ifCond .ne 61, 3) := by decide +kernel
theorem dX5_share_62 : decode cX5_share 62 = .ok (.aload_n 0, 1) := by decide +kernel
theorem dX5_share_63 : decode cX5_share 63 = .ok (.getfield 51, 3) := by decide +kernel
theorem dX5_share_66 : decode cX5_share 66 = .ok (.getfield 202, 3) := by decide +kernel
theorem dX5_share_69 : decode cX5_share 69 = .ok (.iload 8, 2) := by decide +kernel
theorem dX5_share_71 : decode cX5_share 71 = .ok (.iload 5, 2) := by decide +kernel
theorem dX5_share_73 : decode cX5_share 73 = .ok (.ior, 1) := by decide +kernel
theorem dX5_share_74 : decode cX5_share 74 = .ok (.iaload, 1) := by decide +kernel
theorem dX5_share_75 : decode cX5_share 75 = .ok (.aload_n 0, 1) := by decide +kernel
theorem dX5_share_76 : decode cX5_share 76 = .ok (.getfield 51, 3) := by decide +kernel
theorem dX5_share_79 : decode cX5_share 79 = .ok (.getfield 202, 3) := by decide +kernel
theorem dX5_share_82 : decode cX5_share 82 = .ok (.iload 8, 2) := by decide +kernel
theorem dX5_share_84 : decode cX5_share 84 = .ok (.iaload, 1) := by decide +kernel
theorem dX5_share_85 : decode cX5_share 85 = .ok (.if_icmp .le 35, 3) := by decide +kernel
theorem dX5_share_88 : decode cX5_share 88 = .ok (.iload 8, 2) := by decide +kernel
theorem dX5_share_90 : decode cX5_share 90 = .ok (.invokestatic 205, 3) := by decide +kernel
theorem dX5_share_93 : decode cX5_share 93 = .ok (.istore 9, 2) := by decide +kernel
theorem dX5_share_95 : decode cX5_share 95 = .ok (.lload 6, 2) := by decide +kernel
theorem dX5_share_97 : decode cX5_share 97 = .ok (.getstatic 211, 3) := by decide +kernel
theorem dX5_share_100 : decode cX5_share 100 = .ok (.iload 9, 2) := by decide +kernel
theorem dX5_share_102 : decode cX5_share 102 = .ok (.iaload, 1) := by decide +kernel
theorem dX5_share_103 : decode cX5_share 103 = .ok (.i2l, 1) := by decide +kernel
theorem dX5_share_104 : decode cX5_share 104 = .ok (.getstatic 211, 3) := by decide +kernel
theorem dX5_share_107 : decode cX5_share 107 = .ok (.iload 4, 2) := by decide +kernel
theorem dX5_share_109 : decode cX5_share 109 = .ok (.iconst 1, 1) := by decide +kernel
theorem dX5_share_110 : decode cX5_share 110 = .ok (.isub, 1) := by decide +kernel
theorem dX5_share_111 : decode cX5_share 111 = .ok (.iload 9, 2) := by decide +kernel
theorem dX5_share_113 : decode cX5_share 113 = .ok (.isub, 1) := by decide +kernel
theorem dX5_share_114 : decode cX5_share 114 = .ok (.iaload, 1) := by decide +kernel
theorem dX5_share_115 : decode cX5_share 115 = .ok (.i2l, 1) := by decide +kernel
theorem dX5_share_116 : decode cX5_share 116 = .ok (.lmul, 1) := by decide +kernel
theorem dX5_share_117 : decode cX5_share 117 = .ok (.ladd, 1) := by decide +kernel
theorem dX5_share_118 : decode cX5_share 118 = .ok (.lstore 6, 2) := by decide +kernel
theorem dX5_share_120 : decode cX5_share 120 = .ok (.iinc 8 1, 3) := by decide +kernel
theorem dX5_share_123 : decode cX5_share 123 = .ok (.goto (-78), 3) := by decide +kernel
theorem dX5_share_126 : decode cX5_share 126 = .ok (.lload 6, 2) := by decide +kernel
theorem dX5_share_128 : decode cX5_share 128 = .ok (.getstatic 211, 3) := by decide +kernel
theorem dX5_share_131 : decode cX5_share 131 = .ok (.iload 4, 2) := by decide +kernel
theorem dX5_share_133 : decode cX5_share 133 = .ok (.iaload, 1) := by decide +kernel
theorem dX5_share_134 : decode cX5_share 134 = .ok (.i2l, 1) := by decide +kernel
theorem dX5_share_135 : decode cX5_share 135 = .ok (.iload_n 3, 1) := by decide +kernel
theorem dX5_share_136 : decode cX5_share 136 = .ok (.invokestatic 148, 3) := by decide +kernel
theorem dX5_share_139 : decode cX5_share 139 = .ok (.l2i, 1) := by decide +kernel
theorem dX5_share_140 : decode cX5_share 140 = .ok (.ireturn, 1) := by decide +kernel
theorem dX5_lost_0 : decode cX5_lost 0 = .ok (.iload_n 1, 1) := by decide +kernel
theorem dX5_lost_1 : decode cX5_lost 1 = .ok (.ifCond .lt 9, 3) := by decide +kernel
theorem dX5_lost_4 : decode cX5_lost 4 = .ok (.iload_n 1, 1) := by decide +kernel
theorem dX5_lost_5 : decode cX5_lost 5 = .ok (.bipush 10, 2) := by decide +kernel
theorem dX5_lost_7 : decode cX5_lost 7 = .ok (.if_icmp .le 6, 3) := by decide +kernel
theorem dX5_lost_10 : decode cX5_lost 10 = .ok (.bipush (-2), 2) := by decide +kernel
theorem dX5_lost_12 : decode cX5_lost 12 = .ok (.ireturn, 1) := by decide +kernel
theorem dX5_lost_13 : decode cX5_lost 13 = .ok (.aload_n 0, 1) := by decide +kernel
theorem dX5_lost_14 : decode cX5_lost 14 = .ok (.getfield 51, 3) := by decide +kernel
theorem dX5_lost_17 : decode cX5_lost 17 = .ok (.aload_n 0, 1) := by decide +kernel
theorem dX5_lost_18 : decode cX5_lost 18 = .ok (.getfield 19, 3) := by decide +kernel
theorem dX5_lost_21 : decode cX5_lost 21 = .ok (.iload_n 2, 1) := by decide +kernel
theorem dX5_lost_22 : decode cX5_lost 22 = .ok (.invokevirtual 199, 3) := by decide +kernel
theorem dX5_lost_25 : decode cX5_lost 25 = .ok (.aload_n 0, 1) := by decide +kernel
theorem dX5_lost_26 : decode cX5_lost 26 = .ok (.getfield 19, 3) := by decide +kernel
theorem dX5_lost_29 : decode cX5_lost 29 = .ok (.getfield 78, 3) := by decide +kernel
theorem dX5_lost_32 : decode cX5_lost 32 = .ok (.istore 4, 2) := by decide +kernel
theorem dX5_lost_34 : decode cX5_lost 34 = .ok (.aload_n 0, 1) := by decide +kernel
theorem dX5_lost_35 : decode cX5_lost 35 = .ok (.getfield 19, 3) := by decide +kernel
theorem dX5_lost_38 : decode cX5_lost 38 = .ok (.iload_n 2, 1) := by decide +kernel
theorem dX5_lost_39 : decode cX5_lost 39 = .ok (.invokevirtual 214, 3) := by decide +kernel
theorem dX5_lost_42 : decode cX5_lost 42 = .ok (.istore 5, 2) := by decide +kernel
theorem dX5_lost_44 : decode cX5_lost 44 = .ok (.lconst 0, 1) := by decide +kernel
theorem dX5_lost_45 : decode cX5_lost 45 = .ok (.lstore 6, 2) := by decide +kernel
theorem dX5_lost_47 : decode cX5_lost 47 = .ok (.iconst 0, 1) := by decide +kernel
theorem dX5_lost_48 : decode cX5_lost 48 = .ok (.istore 8, 2) := by decide +kernel
theorem dX5_lost_50 : decode cX5_lost 50 = .ok (.iload 8, 2) := by decide +kernel
theorem dX5_lost_52 : decode cX5_lost 52 = .ok (.iconst 1, 1) := by decide +kernel
theorem dX5_lost_53 : decode cX5_lost 53 = .ok (.iload 4, 2) := by decide +kernel
theorem dX5_lost_55 : decode cX5_lost 55 = .ok (.ishl, 1) := by decide +kernel
theorem dX5_lost_56 : decode cX5_lost 56 = .ok (.if_icmp .ge 57, 3) := by decide +kernel
theorem dX5_lost_59 : decode cX5_lost 59 = .ok (.aload_n 0, 1) := by decide +kernel
theorem dX5_lost_60 : decode cX5_lost 60 = .ok (.getfield 51, 3) := by decide +kernel
theorem dX5_lost_63 : decode cX5_lost 63 = .ok (.getfield 202, 3) := by decide +kernel
theorem dX5_lost_66 : decode cX5_lost 66 = .ok (.iload 8, 2) := by decide +kernel
theorem dX5_lost_68 : decode cX5_lost 68 = .ok (.iaload, 1) := by decide +kernel
theorem dX5_lost_69 : decode cX5_lost 69 = .ok (.iload 5, 2) := by decide +kernel
theorem dX5_lost_71 : decode cX5_lost 71 = .ok (.if_icmp .ne 36, 3) := by decide +kernel
theorem dX5_lost_74 : decode cX5_lost 74 = .ok (.iload 8, 2) := by decide +kernel
theorem dX5_lost_76 : decode cX5_lost 76 = .ok (.invokestatic 205, 3) := by decide +kernel
theorem dX5_lost_79 : decode cX5_lost 79 = .ok (.istore 9, 2) := by decide +kernel
theorem dX5_lost_81 : decode cX5_lost 81 = .ok (.lload 6, 2) := by decide +kernel
theorem dX5_lost_83 : decode cX5_lost 83 = .ok (.bipush 10, 2) := by decide +kernel
theorem dX5_lost_85 : decode cX5_lost 85 = .ok (.iload_n 1, 1) := by decide +kernel
theorem dX5_lost_86 : decode cX5_lost 86 = .ok (.isub, 1) := by decide +kernel
theorem dX5_lost_87 : decode cX5_lost 87 = .ok (.iload 9, 2) := by decide +kernel
theorem dX5_lost_89 : decode cX5_lost 89 = .ok (.invokestatic 169, 3) := by decide +kernel
theorem dX5_lost_92 : decode cX5_lost 92 = .ok (.i2l, 1) := by decide +kernel
theorem dX5_lost_93 : decode cX5_lost 93 = .ok (.iload_n 1, 1) := by decide +kernel
theorem dX5_lost_94 : decode cX5_lost 94 = .ok (.iload 4, 2) := by decide +kernel
theorem dX5_lost_96 : decode cX5_lost 96 = .ok (.iload 9, 2) := by decide +kernel
theorem dX5_lost_98 : decode cX5_lost 98 = .ok (.isub, 1) := by decide +kernel
theorem dX5_lost_99 : decode cX5_lost 99 = .ok (.invokestatic 169, 3) := by decide +kernel
theorem dX5_lost_102 : decode cX5_lost 102 = .ok (.i2l, 1) := by decide +kernel
theorem dX5_lost_103 : decode cX5_lost 103 = .ok (.lmul, 1) := by decide +kernel
theorem dX5_lost_104 : decode cX5_lost 104 = .ok (.ladd, 1) := by decide +kernel
theorem dX5_lost_105 : decode cX5_lost 105 = .ok (.lstore 6, 2) := by decide +kernel
theorem dX5_lost_107 : decode cX5_lost 107 = .ok (.iinc 8 1, 3) := by decide +kernel
theorem dX5_lost_110 : decode cX5_lost 110 = .ok (.goto (-60), 3) := by decide +kernel
theorem dX5_lost_113 : decode cX5_lost 113 = .ok (.lload 6, 2) := by decide +kernel
theorem dX5_lost_115 : decode cX5_lost 115 = .ok (.bipush 10, 2) := by decide +kernel
theorem dX5_lost_117 : decode cX5_lost 117 = .ok (.iload 4, 2) := by decide +kernel
theorem dX5_lost_119 : decode cX5_lost 119 = .ok (.invokestatic 169, 3) := by decide +kernel
theorem dX5_lost_122 : decode cX5_lost 122 = .ok (.i2l, 1) := by decide +kernel
theorem dX5_lost_123 : decode cX5_lost 123 = .ok (.iload_n 3, 1) := by decide +kernel
theorem dX5_lost_124 : decode cX5_lost 124 = .ok (.invokestatic 148, 3) := by decide +kernel
theorem dX5_lost_127 : decode cX5_lost 127 = .ok (.l2i, 1) := by decide +kernel
theorem dX5_lost_128 : decode cX5_lost 128 = .ok (.ireturn, 1) := by decide +kernel
theorem dX5_seed_0 : decode cX5_seed 0 = .ok (.aload_n 0, 1) := by decide +kernel
theorem dX5_seed_1 : decode cX5_seed 1 = .ok (.getfield 55, 3) := by decide +kernel
theorem dX5_seed_4 : decode cX5_seed 4 = .ok (.lstore_n 3, 1) := by decide +kernel
theorem dX5_seed_5 : decode cX5_seed 5 = .ok (.aload_n 0, 1) := by decide +kernel
theorem dX5_seed_6 : decode cX5_seed 6 = .ok (.lload_n 1, 1) := by decide +kernel
theorem dX5_seed_7 : decode cX5_seed 7 = .ok (.putfield 55, 3) := by decide +kernel
theorem dX5_seed_10 : decode cX5_seed 10 = .ok (.lload_n 3, 1) := by decide +kernel
theorem dX5_seed_11 : decode cX5_seed 11 = .ok (.lreturn, 1) := by decide +kernel
theorem dX5_drawn_0 : decode cX5_drawn 0 = .ok (.iload_n 1, 1) := by decide +kernel
theorem dX5_drawn_1 : decode cX5_drawn 1 = .ok (.iconst 1, 1) := by decide +kernel
theorem dX5_drawn_2 : decode cX5_drawn 2 = .ok (.if_icmp .lt 9, 3) := by decide +kernel
theorem dX5_drawn_5 : decode cX5_drawn 5 = .ok (.iload_n 1, 1) := by decide +kernel
theorem dX5_drawn_6 : decode cX5_drawn 6 = .ok (.bipush 20, 2) := by decide +kernel
theorem dX5_drawn_8 : decode cX5_drawn 8 = .ok (.if_icmp .le 6, 3) := by decide +kernel
theorem dX5_drawn_11 : decode cX5_drawn 11 = .ok (.bipush (-2), 2) := by decide +kernel
theorem dX5_drawn_13 : decode cX5_drawn 13 = .ok (.ireturn, 1) := by decide +kernel
theorem dX5_drawn_14 : decode cX5_drawn 14 = .ok (.aload_n 0, 1) := by decide +kernel
theorem dX5_drawn_15 : decode cX5_drawn 15 = .ok (.getfield 44, 3) := by decide +kernel
theorem dX5_drawn_18 : decode cX5_drawn 18 = .ok (.aload_n 0, 1) := by decide +kernel
theorem dX5_drawn_19 : decode cX5_drawn 19 = .ok (.getfield 19, 3) := by decide +kernel
theorem dX5_drawn_22 : decode cX5_drawn 22 = .ok (.iconst 0, 1) := by decide +kernel
theorem dX5_drawn_23 : decode cX5_drawn 23 = .ok (.invokevirtual 188, 3) := by decide +kernel
theorem dX5_drawn_26 : decode cX5_drawn 26 = .ok (.istore_n 2, 1) := by decide +kernel
theorem dX5_drawn_27 : decode cX5_drawn 27 = .ok (.iconst 0, 1) := by decide +kernel
theorem dX5_drawn_28 : decode cX5_drawn 28 = .ok (.istore_n 3, 1) := by decide +kernel
theorem dX5_drawn_29 : decode cX5_drawn 29 = .ok (.aload_n 0, 1) := by decide +kernel
theorem dX5_drawn_30 : decode cX5_drawn 30 = .ok (.getfield 23, 3) := by decide +kernel
theorem dX5_drawn_33 : decode cX5_drawn 33 = .ok (.aload_n 0, 1) := by decide +kernel
theorem dX5_drawn_34 : decode cX5_drawn 34 = .ok (.getfield 19, 3) := by decide +kernel
theorem dX5_drawn_37 : decode cX5_drawn 37 = .ok (.invokevirtual 166, 3) := by decide +kernel
theorem dX5_drawn_40 : decode cX5_drawn 40 = .ok (.iconst 0, 1) := by decide +kernel
theorem dX5_drawn_41 : decode cX5_drawn 41 = .ok (.istore 4, 2) := by decide +kernel
theorem dX5_drawn_43 : decode cX5_drawn 43 = .ok (.iload 4, 2) := by decide +kernel
theorem dX5_drawn_45 : decode cX5_drawn 45 = .ok (.iload_n 1, 1) := by decide +kernel
theorem dX5_drawn_46 : decode cX5_drawn 46 = .ok (.if_icmp .ge 56, 3) := by decide +kernel
theorem dX5_drawn_49 : decode cX5_drawn 49 = .ok (.aload_n 0, 1) := by decide +kernel
theorem dX5_drawn_50 : decode cX5_drawn 50 = .ok (.aload_n 0, 1) := by decide +kernel
theorem dX5_drawn_51 : decode cX5_drawn 51 = .ok (.getfield 55, 3) := by decide +kernel
theorem dX5_drawn_54 : decode cX5_drawn 54 = .ok (.ldc2_w 218, 3) := by decide +kernel
theorem dX5_drawn_57 : decode cX5_drawn 57 = .ok (.lmul, 1) := by decide +kernel
theorem dX5_drawn_58 : decode cX5_drawn 58 = .ok (.ldc2_w 220, 3) := by decide +kernel
theorem dX5_drawn_61 : decode cX5_drawn 61 = .ok (.ladd, 1) := by decide +kernel
theorem dX5_drawn_62 : decode cX5_drawn 62 = .ok (.putfield 55, 3) := by decide +kernel
theorem dX5_drawn_65 : decode cX5_drawn 65 = .ok (.aload_n 0, 1) := by decide +kernel
theorem dX5_drawn_66 : decode cX5_drawn 66 = .ok (.aload_n 0, 1) := by decide +kernel
theorem dX5_drawn_67 : decode cX5_drawn 67 = .ok (.getfield 55, 3) := by decide +kernel
theorem dX5_drawn_70 : decode cX5_drawn 70 = .ok (.bipush 33, 2) := by decide +kernel
theorem dX5_drawn_72 : decode cX5_drawn 72 = .ok (.lushr, 1) := by decide +kernel
theorem dX5_drawn_73 : decode cX5_drawn 73 = .ok (.l2i, 1) := by decide +kernel
theorem dX5_drawn_74 : decode cX5_drawn 74 = .ok (.invokevirtual 222, 3) := by decide +kernel
theorem dX5_drawn_77 : decode cX5_drawn 77 = .ok (.aload_n 0, 1) := by decide +kernel
theorem dX5_drawn_78 : decode cX5_drawn 78 = .ok (.getfield 44, 3) := by decide +kernel
theorem dX5_drawn_81 : decode cX5_drawn 81 = .ok (.aload_n 0, 1) := by decide +kernel
theorem dX5_drawn_82 : decode cX5_drawn 82 = .ok (.getfield 23, 3) := by decide +kernel
theorem dX5_drawn_85 : decode cX5_drawn 85 = .ok (.iconst 0, 1) := by decide +kernel
theorem dX5_drawn_86 : decode cX5_drawn 86 = .ok (.invokevirtual 188, 3) := by decide +kernel
theorem dX5_drawn_89 : decode cX5_drawn 89 = .ok (.iload_n 2, 1) := by decide +kernel
theorem dX5_drawn_90 : decode cX5_drawn 90 = .ok (.if_icmp .ne 6, 3) := by decide +kernel
theorem dX5_drawn_93 : decode cX5_drawn 93 = .ok (.iinc 3 1, 3) := by decide +kernel
theorem dX5_drawn_96 : decode cX5_drawn 96 = .ok (.iinc 4 1, 3) := by decide +kernel
theorem dX5_drawn_99 : decode cX5_drawn 99 = .ok (.goto (-56), 3) := by decide +kernel
theorem dX5_drawn_102 : decode cX5_drawn 102 = .ok (.iload_n 3, 1) := by decide +kernel
theorem dX5_drawn_103 : decode cX5_drawn 103 = .ok (.ireturn, 1) := by decide +kernel
theorem dX5_keep_0 : decode cX5_keep 0 = .ok (.iload_n 1, 1) := by decide +kernel
theorem dX5_keep_1 : decode cX5_keep 1 = .ok (.ifCond .lt 8, 3) := by decide +kernel
theorem dX5_keep_4 : decode cX5_keep 4 = .ok (.iload_n 1, 1) := by decide +kernel
theorem dX5_keep_5 : decode cX5_keep 5 = .ok (.iconst 2, 1) := by decide +kernel
theorem dX5_keep_6 : decode cX5_keep 6 = .ok (.if_icmp .lt 5, 3) := by decide +kernel
theorem dX5_keep_9 : decode cX5_keep 9 = .ok (.iconst (-1), 1) := by decide +kernel
theorem dX5_keep_10 : decode cX5_keep 10 = .ok (.ireturn, 1) := by decide +kernel
theorem dX5_keep_11 : decode cX5_keep 11 = .ok (.aload_n 0, 1) := by decide +kernel
theorem dX5_keep_12 : decode cX5_keep 12 = .ok (.getfield 33, 3) := by decide +kernel
theorem dX5_keep_15 : decode cX5_keep 15 = .ok (.iload_n 1, 1) := by decide +kernel
theorem dX5_keep_16 : decode cX5_keep 16 = .ok (.aaload, 1) := by decide +kernel
theorem dX5_keep_17 : decode cX5_keep 17 = .ok (.aload_n 0, 1) := by decide +kernel
theorem dX5_keep_18 : decode cX5_keep 18 = .ok (.getfield 19, 3) := by decide +kernel
theorem dX5_keep_21 : decode cX5_keep 21 = .ok (.invokevirtual 166, 3) := by decide +kernel
theorem dX5_keep_24 : decode cX5_keep 24 = .ok (.aload_n 0, 1) := by decide +kernel
theorem dX5_keep_25 : decode cX5_keep 25 = .ok (.getfield 37, 3) := by decide +kernel
theorem dX5_keep_28 : decode cX5_keep 28 = .ok (.iload_n 1, 1) := by decide +kernel
theorem dX5_keep_29 : decode cX5_keep 29 = .ok (.iconst 1, 1) := by decide +kernel
theorem dX5_keep_30 : decode cX5_keep 30 = .ok (.bastore, 1) := by decide +kernel
theorem dX5_keep_31 : decode cX5_keep 31 = .ok (.aload_n 0, 1) := by decide +kernel
theorem dX5_keep_32 : decode cX5_keep 32 = .ok (.getfield 19, 3) := by decide +kernel
theorem dX5_keep_35 : decode cX5_keep 35 = .ok (.getfield 78, 3) := by decide +kernel
theorem dX5_keep_38 : decode cX5_keep 38 = .ok (.ireturn, 1) := by decide +kernel
theorem dX5_again_0 : decode cX5_again 0 = .ok (.iload_n 1, 1) := by decide +kernel
theorem dX5_again_1 : decode cX5_again 1 = .ok (.ifCond .lt 8, 3) := by decide +kernel
theorem dX5_again_4 : decode cX5_again 4 = .ok (.iload_n 1, 1) := by decide +kernel
theorem dX5_again_5 : decode cX5_again 5 = .ok (.iconst 2, 1) := by decide +kernel
theorem dX5_again_6 : decode cX5_again 6 = .ok (.if_icmp .lt 5, 3) := by decide +kernel
theorem dX5_again_9 : decode cX5_again 9 = .ok (.iconst (-1), 1) := by decide +kernel
theorem dX5_again_10 : decode cX5_again 10 = .ok (.ireturn, 1) := by decide +kernel
theorem dX5_again_11 : decode cX5_again 11 = .ok (.aload_n 0, 1) := by decide +kernel
theorem dX5_again_12 : decode cX5_again 12 = .ok (.getfield 37, 3) := by decide +kernel
theorem dX5_again_15 : decode cX5_again 15 = .ok (.iload_n 1, 1) := by decide +kernel
theorem dX5_again_16 : decode cX5_again 16 = .ok (.baload, 1) := by decide +kernel
theorem dX5_again_17 : decode cX5_again 17 = .ok (.ifCond .ne 6, 3) := by decide +kernel
theorem dX5_again_20 : decode cX5_again 20 = .ok (.bipush (-3), 2) := by decide +kernel
theorem dX5_again_22 : decode cX5_again 22 = .ok (.ireturn, 1) := by decide +kernel
theorem dX5_again_23 : decode cX5_again 23 = .ok (.aload_n 0, 1) := by decide +kernel
theorem dX5_again_24 : decode cX5_again 24 = .ok (.getfield 19, 3) := by decide +kernel
theorem dX5_again_27 : decode cX5_again 27 = .ok (.aload_n 0, 1) := by decide +kernel
theorem dX5_again_28 : decode cX5_again 28 = .ok (.getfield 33, 3) := by decide +kernel
theorem dX5_again_31 : decode cX5_again 31 = .ok (.iload_n 1, 1) := by decide +kernel
theorem dX5_again_32 : decode cX5_again 32 = .ok (.aaload, 1) := by decide +kernel
theorem dX5_again_33 : decode cX5_again 33 = .ok (.invokevirtual 166, 3) := by decide +kernel
theorem dX5_again_36 : decode cX5_again 36 = .ok (.aload_n 0, 1) := by decide +kernel
theorem dX5_again_37 : decode cX5_again 37 = .ok (.getfield 29, 3) := by decide +kernel
theorem dX5_again_40 : decode cX5_again 40 = .ok (.invokevirtual 75, 3) := by decide +kernel
theorem dX5_again_43 : decode cX5_again 43 = .ok (.aload_n 0, 1) := by decide +kernel
theorem dX5_again_44 : decode cX5_again 44 = .ok (.getfield 19, 3) := by decide +kernel
theorem dX5_again_47 : decode cX5_again 47 = .ok (.getfield 78, 3) := by decide +kernel
theorem dX5_again_50 : decode cX5_again 50 = .ok (.ireturn, 1) := by decide +kernel
theorem dX5_count_0 : decode cX5_count 0 = .ok (.iload_n 1, 1) := by decide +kernel
theorem dX5_count_1 : decode cX5_count 1 = .ok (.tableswitch 75 0 4 #[35, 43, 51, 59, 67], 35) := by decide +kernel
theorem dX5_count_36 : decode cX5_count 36 = .ok (.aload_n 0, 1) := by decide +kernel
theorem dX5_count_37 : decode cX5_count 37 = .ok (.getfield 10, 3) := by decide +kernel
theorem dX5_count_40 : decode cX5_count 40 = .ok (.getfield 59, 3) := by decide +kernel
theorem dX5_count_43 : decode cX5_count 43 = .ok (.ireturn, 1) := by decide +kernel
theorem dX5_count_44 : decode cX5_count 44 = .ok (.aload_n 0, 1) := by decide +kernel
theorem dX5_count_45 : decode cX5_count 45 = .ok (.getfield 19, 3) := by decide +kernel
theorem dX5_count_48 : decode cX5_count 48 = .ok (.getfield 91, 3) := by decide +kernel
theorem dX5_count_51 : decode cX5_count 51 = .ok (.ireturn, 1) := by decide +kernel
theorem dX5_count_52 : decode cX5_count 52 = .ok (.aload_n 0, 1) := by decide +kernel
theorem dX5_count_53 : decode cX5_count 53 = .ok (.getfield 19, 3) := by decide +kernel
theorem dX5_count_56 : decode cX5_count 56 = .ok (.getfield 116, 3) := by decide +kernel
theorem dX5_count_59 : decode cX5_count 59 = .ok (.ireturn, 1) := by decide +kernel
theorem dX5_count_60 : decode cX5_count 60 = .ok (.aload_n 0, 1) := by decide +kernel
theorem dX5_count_61 : decode cX5_count 61 = .ok (.getfield 19, 3) := by decide +kernel
theorem dX5_count_64 : decode cX5_count 64 = .ok (.getfield 78, 3) := by decide +kernel
theorem dX5_count_67 : decode cX5_count 67 = .ok (.ireturn, 1) := by decide +kernel
theorem dX5_count_68 : decode cX5_count 68 = .ok (.aload_n 0, 1) := by decide +kernel
theorem dX5_count_69 : decode cX5_count 69 = .ok (.getfield 29, 3) := by decide +kernel
theorem dX5_count_72 : decode cX5_count 72 = .ok (.getfield 119, 3) := by decide +kernel
theorem dX5_count_75 : decode cX5_count 75 = .ok (.ireturn, 1) := by decide +kernel
theorem dX5_count_76 : decode cX5_count 76 = .ok (.bipush (-2), 2) := by decide +kernel
theorem dX5_count_78 : decode cX5_count 78 = .ok (.ireturn, 1) := by decide +kernel
theorem dX5_holds_0 : decode cX5_holds 0 = .ok (.iload_n 1, 1) := by decide +kernel
theorem dX5_holds_1 : decode cX5_holds 1 = .ok (.bipush 100, 2) := by decide +kernel
theorem dX5_holds_3 : decode cX5_holds 3 = .ok (.idiv, 1) := by decide +kernel
theorem dX5_holds_4 : decode cX5_holds 4 = .ok (.bipush 10, 2) := by decide +kernel
theorem dX5_holds_6 : decode cX5_holds 6 = .ok (.irem, 1) := by decide +kernel
theorem dX5_holds_7 : decode cX5_holds 7 = .ok (.istore_n 2, 1) := by decide +kernel
theorem dX5_holds_8 : decode cX5_holds 8 = .ok (.iload_n 1, 1) := by decide +kernel
theorem dX5_holds_9 : decode cX5_holds 9 = .ok (.bipush 10, 2) := by decide +kernel
theorem dX5_holds_11 : decode cX5_holds 11 = .ok (.idiv, 1) := by decide +kernel
theorem dX5_holds_12 : decode cX5_holds 12 = .ok (.bipush 10, 2) := by decide +kernel
theorem dX5_holds_14 : decode cX5_holds 14 = .ok (.irem, 1) := by decide +kernel
theorem dX5_holds_15 : decode cX5_holds 15 = .ok (.istore_n 3, 1) := by decide +kernel
theorem dX5_holds_16 : decode cX5_holds 16 = .ok (.iload_n 1, 1) := by decide +kernel
theorem dX5_holds_17 : decode cX5_holds 17 = .ok (.bipush 10, 2) := by decide +kernel
theorem dX5_holds_19 : decode cX5_holds 19 = .ok (.irem, 1) := by decide +kernel
theorem dX5_holds_20 : decode cX5_holds 20 = .ok (.istore 4, 2) := by decide +kernel
theorem dX5_holds_22 : decode cX5_holds 22 = .ok (.iload_n 1, 1) := by decide +kernel
theorem dX5_holds_23 : decode cX5_holds 23 = .ok (.bipush 100, 2) := by decide +kernel
theorem dX5_holds_25 : decode cX5_holds 25 = .ok (.irem, 1) := by decide +kernel
theorem dX5_holds_26 : decode cX5_holds 26 = .ok (.istore 5, 2) := by decide +kernel
theorem dX5_holds_28 : decode cX5_holds 28 = .ok (.iload_n 1, 1) := by decide +kernel
theorem dX5_holds_29 : decode cX5_holds 29 = .ok (.sipush 1000, 3) := by decide +kernel
theorem dX5_holds_32 : decode cX5_holds 32 = .ok (.idiv, 1) := by decide +kernel
theorem dX5_holds_33 : decode cX5_holds 33 = .ok (.tableswitch 206 1 6 #[39, 59, 78, 133, 160, 187], 39) := by decide +kernel
theorem dX5_holds_72 : decode cX5_holds 72 = .ok (.iload 4, 2) := by decide +kernel
theorem dX5_holds_74 : decode cX5_holds 74 = .ok (.ifCond .ne 16, 3) := by decide +kernel
theorem dX5_holds_77 : decode cX5_holds 77 = .ok (.aload_n 0, 1) := by decide +kernel
theorem dX5_holds_78 : decode cX5_holds 78 = .ok (.iload_n 2, 1) := by decide +kernel
theorem dX5_holds_79 : decode cX5_holds 79 = .ok (.iload_n 3, 1) := by decide +kernel
theorem dX5_holds_80 : decode cX5_holds 80 = .ok (.invokevirtual 225, 3) := by decide +kernel
theorem dX5_holds_83 : decode cX5_holds 83 = .ok (.ifCond .eq 7, 3) := by decide +kernel
theorem dX5_holds_86 : decode cX5_holds 86 = .ok (.iconst 1, 1) := by decide +kernel
theorem dX5_holds_87 : decode cX5_holds 87 = .ok (.goto 4, 3) := by decide +kernel
theorem dX5_holds_90 : decode cX5_holds 90 = .ok (.iconst 0, 1) := by decide +kernel
theorem dX5_holds_91 : decode cX5_holds 91 = .ok (.ireturn, 1) := by decide +kernel
theorem dX5_holds_92 : decode cX5_holds 92 = .ok (.iload 5, 2) := by decide +kernel
theorem dX5_holds_94 : decode cX5_holds 94 = .ok (.ifCond .ne 15, 3) := by decide +kernel
theorem dX5_holds_97 : decode cX5_holds 97 = .ok (.aload_n 0, 1) := by decide +kernel
theorem dX5_holds_98 : decode cX5_holds 98 = .ok (.iload_n 2, 1) := by decide +kernel
theorem dX5_holds_99 : decode cX5_holds 99 = .ok (.invokevirtual 228, 3) := by decide +kernel
theorem dX5_holds_102 : decode cX5_holds 102 = .ok (.ifCond .eq 7, 3) := by decide +kernel
theorem dX5_holds_105 : decode cX5_holds 105 = .ok (.iconst 1, 1) := by decide +kernel
theorem dX5_holds_106 : decode cX5_holds 106 = .ok (.goto 4, 3) := by decide +kernel
theorem dX5_holds_109 : decode cX5_holds 109 = .ok (.iconst 0, 1) := by decide +kernel
theorem dX5_holds_110 : decode cX5_holds 110 = .ok (.ireturn, 1) := by decide +kernel
theorem dX5_holds_111 : decode cX5_holds 111 = .ok (.iload_n 2, 1) := by decide +kernel
theorem dX5_holds_112 : decode cX5_holds 112 = .ok (.aload_n 0, 1) := by decide +kernel
theorem dX5_holds_113 : decode cX5_holds 113 = .ok (.getfield 23, 3) := by decide +kernel
theorem dX5_holds_116 : decode cX5_holds 116 = .ok (.getfield 91, 3) := by decide +kernel
theorem dX5_holds_119 : decode cX5_holds 119 = .ok (.if_icmp .ge 45, 3) := by decide +kernel
theorem dX5_holds_122 : decode cX5_holds 122 = .ok (.aload_n 0, 1) := by decide +kernel
theorem dX5_holds_123 : decode cX5_holds 123 = .ok (.getfield 44, 3) := by decide +kernel
theorem dX5_holds_126 : decode cX5_holds 126 = .ok (.aload_n 0, 1) := by decide +kernel
theorem dX5_holds_127 : decode cX5_holds 127 = .ok (.getfield 23, 3) := by decide +kernel
theorem dX5_holds_130 : decode cX5_holds 130 = .ok (.iconst 0, 1) := by decide +kernel
theorem dX5_holds_131 : decode cX5_holds 131 = .ok (.invokevirtual 135, 3) := by decide +kernel
theorem dX5_holds_134 : decode cX5_holds 134 = .ok (.ifCond .eq 30, 3) := by decide +kernel
theorem dX5_holds_137 : decode cX5_holds 137 = .ok (.aload_n 0, 1) := by decide +kernel
theorem dX5_holds_138 : decode cX5_holds 138 = .ok (.getfield 44, 3) := by decide +kernel
theorem dX5_holds_141 : decode cX5_holds 141 = .ok (.iload_n 2, 1) := by decide +kernel
theorem dX5_holds_142 : decode cX5_holds 142 = .ok (.invokevirtual 141, 3) := by decide +kernel
theorem dX5_holds_145 : decode cX5_holds 145 = .ok (.iload 5, 2) := by decide +kernel
theorem dX5_holds_147 : decode cX5_holds 147 = .ok (.i2l, 1) := by decide +kernel
theorem dX5_holds_148 : decode cX5_holds 148 = .ok (.aload_n 0, 1) := by decide +kernel
theorem dX5_holds_149 : decode cX5_holds 149 = .ok (.getfield 44, 3) := by decide +kernel
theorem dX5_holds_152 : decode cX5_holds 152 = .ok (.getfield 145, 3) := by decide +kernel
theorem dX5_holds_155 : decode cX5_holds 155 = .ok (.lmul, 1) := by decide +kernel
theorem dX5_holds_156 : decode cX5_holds 156 = .ok (.lcmp, 1) := by decide +kernel
theorem dX5_holds_157 : decode cX5_holds 157 = .ok (.ifCond .ne 7, 3) := by decide +kernel
theorem dX5_holds_160 : decode cX5_holds 160 = .ok (.iconst 1, 1) := by decide +kernel
theorem dX5_holds_161 : decode cX5_holds 161 = .ok (.goto 4, 3) := by decide +kernel
theorem dX5_holds_164 : decode cX5_holds 164 = .ok (.iconst 0, 1) := by decide +kernel
theorem dX5_holds_165 : decode cX5_holds 165 = .ok (.ireturn, 1) := by decide +kernel
theorem dX5_holds_166 : decode cX5_holds 166 = .ok (.iload 5, 2) := by decide +kernel
theorem dX5_holds_168 : decode cX5_holds 168 = .ok (.ifCond .ne 23, 3) := by decide +kernel
theorem dX5_holds_171 : decode cX5_holds 171 = .ok (.aload_n 0, 1) := by decide +kernel
theorem dX5_holds_172 : decode cX5_holds 172 = .ok (.getfield 51, 3) := by decide +kernel
theorem dX5_holds_175 : decode cX5_holds 175 = .ok (.aload_n 0, 1) := by decide +kernel
theorem dX5_holds_176 : decode cX5_holds 176 = .ok (.getfield 23, 3) := by decide +kernel
theorem dX5_holds_179 : decode cX5_holds 179 = .ok (.iconst 0, 1) := by decide +kernel
theorem dX5_holds_180 : decode cX5_holds 180 = .ok (.invokevirtual 125, 3) := by decide +kernel
theorem dX5_holds_183 : decode cX5_holds 183 = .ok (.iload_n 2, 1) := by decide +kernel
theorem dX5_holds_184 : decode cX5_holds 184 = .ok (.if_icmp .ne 7, 3) := by decide +kernel
theorem dX5_holds_187 : decode cX5_holds 187 = .ok (.iconst 1, 1) := by decide +kernel
theorem dX5_holds_188 : decode cX5_holds 188 = .ok (.goto 4, 3) := by decide +kernel
theorem dX5_holds_191 : decode cX5_holds 191 = .ok (.iconst 0, 1) := by decide +kernel
theorem dX5_holds_192 : decode cX5_holds 192 = .ok (.ireturn, 1) := by decide +kernel
theorem dX5_holds_193 : decode cX5_holds 193 = .ok (.iload 5, 2) := by decide +kernel
theorem dX5_holds_195 : decode cX5_holds 195 = .ok (.ifCond .ne 23, 3) := by decide +kernel
theorem dX5_holds_198 : decode cX5_holds 198 = .ok (.aload_n 0, 1) := by decide +kernel
theorem dX5_holds_199 : decode cX5_holds 199 = .ok (.getfield 44, 3) := by decide +kernel
theorem dX5_holds_202 : decode cX5_holds 202 = .ok (.aload_n 0, 1) := by decide +kernel
theorem dX5_holds_203 : decode cX5_holds 203 = .ok (.getfield 23, 3) := by decide +kernel
theorem dX5_holds_206 : decode cX5_holds 206 = .ok (.iconst 0, 1) := by decide +kernel
theorem dX5_holds_207 : decode cX5_holds 207 = .ok (.invokevirtual 188, 3) := by decide +kernel
theorem dX5_holds_210 : decode cX5_holds 210 = .ok (.iload_n 2, 1) := by decide +kernel
theorem dX5_holds_211 : decode cX5_holds 211 = .ok (.if_icmp .ne 7, 3) := by decide +kernel
theorem dX5_holds_214 : decode cX5_holds 214 = .ok (.iconst 1, 1) := by decide +kernel
theorem dX5_holds_215 : decode cX5_holds 215 = .ok (.goto 4, 3) := by decide +kernel
theorem dX5_holds_218 : decode cX5_holds 218 = .ok (.iconst 0, 1) := by decide +kernel
theorem dX5_holds_219 : decode cX5_holds 219 = .ok (.ireturn, 1) := by decide +kernel
theorem dX5_holds_220 : decode cX5_holds 220 = .ok (.iload_n 2, 1) := by decide +kernel
theorem dX5_holds_221 : decode cX5_holds 221 = .ok (.ifCond .ne 16, 3) := by decide +kernel
theorem dX5_holds_224 : decode cX5_holds 224 = .ok (.aload_n 0, 1) := by decide +kernel
theorem dX5_holds_225 : decode cX5_holds 225 = .ok (.iload 5, 2) := by decide +kernel
theorem dX5_holds_227 : decode cX5_holds 227 = .ok (.invokevirtual 231, 3) := by decide +kernel
theorem dX5_holds_230 : decode cX5_holds 230 = .ok (.ifCond .eq 7, 3) := by decide +kernel
theorem dX5_holds_233 : decode cX5_holds 233 = .ok (.iconst 1, 1) := by decide +kernel
theorem dX5_holds_234 : decode cX5_holds 234 = .ok (.goto 4, 3) := by decide +kernel
theorem dX5_holds_237 : decode cX5_holds 237 = .ok (.iconst 0, 1) := by decide +kernel
theorem dX5_holds_238 : decode cX5_holds 238 = .ok (.ireturn, 1) := by decide +kernel
theorem dX5_holds_239 : decode cX5_holds 239 = .ok (.iconst 0, 1) := by decide +kernel
theorem dX5_holds_240 : decode cX5_holds 240 = .ok (.ireturn, 1) := by decide +kernel
theorem dX5_exchanged_0 : decode cX5_exchanged 0 = .ok (.aload_n 0, 1) := by decide +kernel
theorem dX5_exchanged_1 : decode cX5_exchanged 1 = .ok (.getfield 23, 3) := by decide +kernel
theorem dX5_exchanged_4 : decode cX5_exchanged 4 = .ok (.iload_n 1, 1) := by decide +kernel
theorem dX5_exchanged_5 : decode cX5_exchanged 5 = .ok (.invokevirtual 81, 3) := by decide +kernel
theorem dX5_exchanged_8 : decode cX5_exchanged 8 = .ok (.ifCond .eq 19, 3) := by decide +kernel
theorem dX5_exchanged_11 : decode cX5_exchanged 11 = .ok (.aload_n 0, 1) := by decide +kernel
theorem dX5_exchanged_12 : decode cX5_exchanged 12 = .ok (.getfield 23, 3) := by decide +kernel
theorem dX5_exchanged_15 : decode cX5_exchanged 15 = .ok (.iload_n 2, 1) := by decide +kernel
theorem dX5_exchanged_16 : decode cX5_exchanged 16 = .ok (.invokevirtual 81, 3) := by decide +kernel
theorem dX5_exchanged_19 : decode cX5_exchanged 19 = .ok (.ifCond .eq 8, 3) := by decide +kernel
theorem dX5_exchanged_22 : decode cX5_exchanged 22 = .ok (.iload_n 1, 1) := by decide +kernel
theorem dX5_exchanged_23 : decode cX5_exchanged 23 = .ok (.iload_n 2, 1) := by decide +kernel
theorem dX5_exchanged_24 : decode cX5_exchanged 24 = .ok (.if_icmp .ne 5, 3) := by decide +kernel
theorem dX5_exchanged_27 : decode cX5_exchanged 27 = .ok (.iconst 0, 1) := by decide +kernel
theorem dX5_exchanged_28 : decode cX5_exchanged 28 = .ok (.ireturn, 1) := by decide +kernel
theorem dX5_exchanged_29 : decode cX5_exchanged 29 = .ok (.aload_n 0, 1) := by decide +kernel
theorem dX5_exchanged_30 : decode cX5_exchanged 30 = .ok (.getfield 23, 3) := by decide +kernel
theorem dX5_exchanged_33 : decode cX5_exchanged 33 = .ok (.iload_n 1, 1) := by decide +kernel
theorem dX5_exchanged_34 : decode cX5_exchanged 34 = .ok (.iload_n 2, 1) := by decide +kernel
theorem dX5_exchanged_35 : decode cX5_exchanged 35 = .ok (.invokevirtual 113, 3) := by decide +kernel
theorem dX5_exchanged_38 : decode cX5_exchanged 38 = .ok (.iconst 1, 1) := by decide +kernel
theorem dX5_exchanged_39 : decode cX5_exchanged 39 = .ok (.ireturn, 1) := by decide +kernel
theorem dX5_removed_0 : decode cX5_removed 0 = .ok (.aload_n 0, 1) := by decide +kernel
theorem dX5_removed_1 : decode cX5_removed 1 = .ok (.getfield 23, 3) := by decide +kernel
theorem dX5_removed_4 : decode cX5_removed 4 = .ok (.iload_n 1, 1) := by decide +kernel
theorem dX5_removed_5 : decode cX5_removed 5 = .ok (.invokevirtual 81, 3) := by decide +kernel
theorem dX5_removed_8 : decode cX5_removed 8 = .ok (.ifCond .ne 5, 3) := by decide +kernel
theorem dX5_removed_11 : decode cX5_removed 11 = .ok (.iconst 0, 1) := by decide +kernel
theorem dX5_removed_12 : decode cX5_removed 12 = .ok (.ireturn, 1) := by decide +kernel
theorem dX5_removed_13 : decode cX5_removed 13 = .ok (.aload_n 0, 1) := by decide +kernel
theorem dX5_removed_14 : decode cX5_removed 14 = .ok (.getfield 23, 3) := by decide +kernel
theorem dX5_removed_17 : decode cX5_removed 17 = .ok (.iload_n 1, 1) := by decide +kernel
theorem dX5_removed_18 : decode cX5_removed 18 = .ok (.invokevirtual 109, 3) := by decide +kernel
theorem dX5_removed_21 : decode cX5_removed 21 = .ok (.iconst 1, 1) := by decide +kernel
theorem dX5_removed_22 : decode cX5_removed 22 = .ok (.ireturn, 1) := by decide +kernel
theorem dX5_masterSet_0 : decode cX5_masterSet 0 = .ok (.aload_n 0, 1) := by decide +kernel
theorem dX5_masterSet_1 : decode cX5_masterSet 1 = .ok (.getfield 23, 3) := by decide +kernel
theorem dX5_masterSet_4 : decode cX5_masterSet 4 = .ok (.iload_n 1, 1) := by decide +kernel
theorem dX5_masterSet_5 : decode cX5_masterSet 5 = .ok (.putfield 116, 3) := by decide +kernel
theorem dX5_masterSet_8 : decode cX5_masterSet 8 = .ok (.iconst 1, 1) := by decide +kernel
theorem dX5_masterSet_9 : decode cX5_masterSet 9 = .ok (.ireturn, 1) := by decide +kernel
theorem dX5_drawReadings_0 : decode cX5_drawReadings 0 = .ok (.iconst 0, 1) := by decide +kernel
theorem dX5_drawReadings_1 : decode cX5_drawReadings 1 = .ok (.istore_n 2, 1) := by decide +kernel
theorem dX5_drawReadings_2 : decode cX5_drawReadings 2 = .ok (.iload_n 2, 1) := by decide +kernel
theorem dX5_drawReadings_3 : decode cX5_drawReadings 3 = .ok (.aload_n 0, 1) := by decide +kernel
theorem dX5_drawReadings_4 : decode cX5_drawReadings 4 = .ok (.getfield 19, 3) := by decide +kernel
theorem dX5_drawReadings_7 : decode cX5_drawReadings 7 = .ok (.getfield 78, 3) := by decide +kernel
theorem dX5_drawReadings_10 : decode cX5_drawReadings 10 = .ok (.if_icmp .ge 48, 3) := by decide +kernel
theorem dX5_drawReadings_13 : decode cX5_drawReadings 13 = .ok (.iload_n 1, 1) := by decide +kernel
theorem dX5_drawReadings_14 : decode cX5_drawReadings 14 = .ok (.iconst 2, 1) := by decide +kernel
theorem dX5_drawReadings_15 : decode cX5_drawReadings 15 = .ok (.iload_n 2, 1) := by decide +kernel
theorem dX5_drawReadings_16 : decode cX5_drawReadings 16 = .ok (.imul, 1) := by decide +kernel
theorem dX5_drawReadings_17 : decode cX5_drawReadings 17 = .ok (.ishr, 1) := by decide +kernel
theorem dX5_drawReadings_18 : decode cX5_drawReadings 18 = .ok (.iconst 3, 1) := by decide +kernel
theorem dX5_drawReadings_19 : decode cX5_drawReadings 19 = .ok (.iand, 1) := by decide +kernel
theorem dX5_drawReadings_20 : decode cX5_drawReadings 20 = .ok (.iconst 1, 1) := by decide +kernel
theorem dX5_drawReadings_21 : decode cX5_drawReadings 21 = .ok (.isub, 1) := by decide +kernel
theorem dX5_drawReadings_22 : decode cX5_drawReadings 22 = .ok (.istore_n 3, 1) := by decide +kernel
theorem dX5_drawReadings_23 : decode cX5_drawReadings 23 = .ok (.aload_n 0, 1) := by decide +kernel
theorem dX5_drawReadings_24 : decode cX5_drawReadings 24 = .ok (.getfield 23, 3) := by decide +kernel
theorem dX5_drawReadings_27 : decode cX5_drawReadings 27 = .ok (.getfield 88, 3) := by decide +kernel
theorem dX5_drawReadings_30 : decode cX5_drawReadings 30 = .ok (.iload_n 2, 1) := by decide +kernel
theorem dX5_drawReadings_31 : decode cX5_drawReadings 31 = .ok (.aload_n 0, 1) := by decide +kernel
theorem dX5_drawReadings_32 : decode cX5_drawReadings 32 = .ok (.getfield 19, 3) := by decide +kernel
theorem dX5_drawReadings_35 : decode cX5_drawReadings 35 = .ok (.getfield 88, 3) := by decide +kernel
theorem dX5_drawReadings_38 : decode cX5_drawReadings 38 = .ok (.iload_n 2, 1) := by decide +kernel
theorem dX5_drawReadings_39 : decode cX5_drawReadings 39 = .ok (.iaload, 1) := by decide +kernel
theorem dX5_drawReadings_40 : decode cX5_drawReadings 40 = .ok (.iload_n 3, 1) := by decide +kernel
theorem dX5_drawReadings_41 : decode cX5_drawReadings 41 = .ok (.iconst 2, 1) := by decide +kernel
theorem dX5_drawReadings_42 : decode cX5_drawReadings 42 = .ok (.if_icmp .ne 7, 3) := by decide +kernel
theorem dX5_drawReadings_45 : decode cX5_drawReadings 45 = .ok (.iconst 0, 1) := by decide +kernel
theorem dX5_drawReadings_46 : decode cX5_drawReadings 46 = .ok (.goto 4, 3) := by decide +kernel
theorem dX5_drawReadings_49 : decode cX5_drawReadings 49 = .ok (.iload_n 3, 1) := by decide +kernel
theorem dX5_drawReadings_50 : decode cX5_drawReadings 50 = .ok (.iadd, 1) := by decide +kernel
theorem dX5_drawReadings_51 : decode cX5_drawReadings 51 = .ok (.iastore, 1) := by decide +kernel
theorem dX5_drawReadings_52 : decode cX5_drawReadings 52 = .ok (.iinc 2 1, 3) := by decide +kernel
theorem dX5_drawReadings_55 : decode cX5_drawReadings 55 = .ok (.goto (-53), 3) := by decide +kernel
theorem dX5_drawReadings_58 : decode cX5_drawReadings 58 = .ok (.return_, 1) := by decide +kernel
theorem dX5_isReading_0 : decode cX5_isReading 0 = .ok (.iload_n 0, 1) := by decide +kernel
theorem dX5_isReading_1 : decode cX5_isReading 1 = .ok (.sipush (-999), 3) := by decide +kernel
theorem dX5_isReading_4 : decode cX5_isReading 4 = .ok (.if_icmp .lt 14, 3) := by decide +kernel
theorem dX5_isReading_7 : decode cX5_isReading 7 = .ok (.iload_n 0, 1) := by decide +kernel
theorem dX5_isReading_8 : decode cX5_isReading 8 = .ok (.sipush 999, 3) := by decide +kernel
theorem dX5_isReading_11 : decode cX5_isReading 11 = .ok (.if_icmp .gt 7, 3) := by decide +kernel
theorem dX5_isReading_14 : decode cX5_isReading 14 = .ok (.iconst 1, 1) := by decide +kernel
theorem dX5_isReading_15 : decode cX5_isReading 15 = .ok (.goto 4, 3) := by decide +kernel
theorem dX5_isReading_18 : decode cX5_isReading 18 = .ok (.iconst 0, 1) := by decide +kernel
theorem dX5_isReading_19 : decode cX5_isReading 19 = .ok (.ireturn, 1) := by decide +kernel
theorem dX5_isCode_0 : decode cX5_isCode 0 = .ok (.iload_n 0, 1) := by decide +kernel
theorem dX5_isCode_1 : decode cX5_isCode 1 = .ok (.istore_n 2, 1) := by decide +kernel
theorem dX5_isCode_2 : decode cX5_isCode 2 = .ok (.iconst 0, 1) := by decide +kernel
theorem dX5_isCode_3 : decode cX5_isCode 3 = .ok (.istore_n 3, 1) := by decide +kernel
theorem dX5_isCode_4 : decode cX5_isCode 4 = .ok (.iload_n 3, 1) := by decide +kernel
theorem dX5_isCode_5 : decode cX5_isCode 5 = .ok (.iload_n 1, 1) := by decide +kernel
theorem dX5_isCode_6 : decode cX5_isCode 6 = .ok (.if_icmp .gt 28, 3) := by decide +kernel
theorem dX5_isCode_9 : decode cX5_isCode 9 = .ok (.iload_n 2, 1) := by decide +kernel
theorem dX5_isCode_10 : decode cX5_isCode 10 = .ok (.ifCond .lt 11, 3) := by decide +kernel
theorem dX5_isCode_13 : decode cX5_isCode 13 = .ok (.iload_n 2, 1) := by decide +kernel
theorem dX5_isCode_14 : decode cX5_isCode 14 = .ok (.bipush 10, 2) := by decide +kernel
theorem dX5_isCode_16 : decode cX5_isCode 16 = .ok (.irem, 1) := by decide +kernel
theorem dX5_isCode_17 : decode cX5_isCode 17 = .ok (.iconst 2, 1) := by decide +kernel
theorem dX5_isCode_18 : decode cX5_isCode 18 = .ok (.if_icmp .le 5, 3) := by decide +kernel
theorem dX5_isCode_21 : decode cX5_isCode 21 = .ok (.iconst 0, 1) := by decide +kernel
theorem dX5_isCode_22 : decode cX5_isCode 22 = .ok (.ireturn, 1) := by decide +kernel
theorem dX5_isCode_23 : decode cX5_isCode 23 = .ok (.iload_n 2, 1) := by decide +kernel
theorem dX5_isCode_24 : decode cX5_isCode 24 = .ok (.bipush 10, 2) := by decide +kernel
theorem dX5_isCode_26 : decode cX5_isCode 26 = .ok (.idiv, 1) := by decide +kernel
theorem dX5_isCode_27 : decode cX5_isCode 27 = .ok (.istore_n 2, 1) := by decide +kernel
theorem dX5_isCode_28 : decode cX5_isCode 28 = .ok (.iinc 3 1, 3) := by decide +kernel
theorem dX5_isCode_31 : decode cX5_isCode 31 = .ok (.goto (-27), 3) := by decide +kernel
theorem dX5_isCode_34 : decode cX5_isCode 34 = .ok (.iload_n 2, 1) := by decide +kernel
theorem dX5_isCode_35 : decode cX5_isCode 35 = .ok (.ifCond .ne 7, 3) := by decide +kernel
theorem dX5_isCode_38 : decode cX5_isCode 38 = .ok (.iconst 1, 1) := by decide +kernel
theorem dX5_isCode_39 : decode cX5_isCode 39 = .ok (.goto 4, 3) := by decide +kernel
theorem dX5_isCode_42 : decode cX5_isCode 42 = .ok (.iconst 0, 1) := by decide +kernel
theorem dX5_isCode_43 : decode cX5_isCode 43 = .ok (.ireturn, 1) := by decide +kernel
theorem dX5_numbered_0 : decode cX5_numbered 0 = .ok (.iconst 0, 1) := by decide +kernel
theorem dX5_numbered_1 : decode cX5_numbered 1 = .ok (.istore_n 2, 1) := by decide +kernel
theorem dX5_numbered_2 : decode cX5_numbered 2 = .ok (.iconst 1, 1) := by decide +kernel
theorem dX5_numbered_3 : decode cX5_numbered 3 = .ok (.istore_n 3, 1) := by decide +kernel
theorem dX5_numbered_4 : decode cX5_numbered 4 = .ok (.iload_n 0, 1) := by decide +kernel
theorem dX5_numbered_5 : decode cX5_numbered 5 = .ok (.istore 4, 2) := by decide +kernel
theorem dX5_numbered_7 : decode cX5_numbered 7 = .ok (.iconst 0, 1) := by decide +kernel
theorem dX5_numbered_8 : decode cX5_numbered 8 = .ok (.istore 5, 2) := by decide +kernel
theorem dX5_numbered_10 : decode cX5_numbered 10 = .ok (.iload 5, 2) := by decide +kernel
theorem dX5_numbered_12 : decode cX5_numbered 12 = .ok (.iload_n 1, 1) := by decide +kernel
theorem dX5_numbered_13 : decode cX5_numbered 13 = .ok (.if_icmp .ge 29, 3) := by decide +kernel
theorem dX5_numbered_16 : decode cX5_numbered 16 = .ok (.iload_n 2, 1) := by decide +kernel
theorem dX5_numbered_17 : decode cX5_numbered 17 = .ok (.iload 4, 2) := by decide +kernel
theorem dX5_numbered_19 : decode cX5_numbered 19 = .ok (.iconst 3, 1) := by decide +kernel
theorem dX5_numbered_20 : decode cX5_numbered 20 = .ok (.irem, 1) := by decide +kernel
theorem dX5_numbered_21 : decode cX5_numbered 21 = .ok (.iload_n 3, 1) := by decide +kernel
theorem dX5_numbered_22 : decode cX5_numbered 22 = .ok (.imul, 1) := by decide +kernel
theorem dX5_numbered_23 : decode cX5_numbered 23 = .ok (.iadd, 1) := by decide +kernel
theorem dX5_numbered_24 : decode cX5_numbered 24 = .ok (.istore_n 2, 1) := by decide +kernel
theorem dX5_numbered_25 : decode cX5_numbered 25 = .ok (.iload 4, 2) := by decide +kernel
theorem dX5_numbered_27 : decode cX5_numbered 27 = .ok (.iconst 3, 1) := by decide +kernel
theorem dX5_numbered_28 : decode cX5_numbered 28 = .ok (.idiv, 1) := by decide +kernel
theorem dX5_numbered_29 : decode cX5_numbered 29 = .ok (.istore 4, 2) := by decide +kernel
theorem dX5_numbered_31 : decode cX5_numbered 31 = .ok (.iload_n 3, 1) := by decide +kernel
theorem dX5_numbered_32 : decode cX5_numbered 32 = .ok (.bipush 10, 2) := by decide +kernel
theorem dX5_numbered_34 : decode cX5_numbered 34 = .ok (.imul, 1) := by decide +kernel
theorem dX5_numbered_35 : decode cX5_numbered 35 = .ok (.istore_n 3, 1) := by decide +kernel
theorem dX5_numbered_36 : decode cX5_numbered 36 = .ok (.iinc 5 1, 3) := by decide +kernel
theorem dX5_numbered_39 : decode cX5_numbered 39 = .ok (.goto (-29), 3) := by decide +kernel
theorem dX5_numbered_42 : decode cX5_numbered 42 = .ok (.iload_n 2, 1) := by decide +kernel
theorem dX5_numbered_43 : decode cX5_numbered 43 = .ok (.ireturn, 1) := by decide +kernel
theorem dX5_power_0 : decode cX5_power 0 = .ok (.iconst 1, 1) := by decide +kernel
theorem dX5_power_1 : decode cX5_power 1 = .ok (.istore_n 2, 1) := by decide +kernel
theorem dX5_power_2 : decode cX5_power 2 = .ok (.iconst 0, 1) := by decide +kernel
theorem dX5_power_3 : decode cX5_power 3 = .ok (.istore_n 3, 1) := by decide +kernel
theorem dX5_power_4 : decode cX5_power 4 = .ok (.iload_n 3, 1) := by decide +kernel
theorem dX5_power_5 : decode cX5_power 5 = .ok (.iload_n 1, 1) := by decide +kernel
theorem dX5_power_6 : decode cX5_power 6 = .ok (.if_icmp .ge 13, 3) := by decide +kernel
theorem dX5_power_9 : decode cX5_power 9 = .ok (.iload_n 2, 1) := by decide +kernel
theorem dX5_power_10 : decode cX5_power 10 = .ok (.iload_n 0, 1) := by decide +kernel
theorem dX5_power_11 : decode cX5_power 11 = .ok (.imul, 1) := by decide +kernel
theorem dX5_power_12 : decode cX5_power 12 = .ok (.istore_n 2, 1) := by decide +kernel
theorem dX5_power_13 : decode cX5_power 13 = .ok (.iinc 3 1, 3) := by decide +kernel
theorem dX5_power_16 : decode cX5_power 16 = .ok (.goto (-12), 3) := by decide +kernel
theorem dX5_power_19 : decode cX5_power 19 = .ok (.iload_n 2, 1) := by decide +kernel
theorem dX5_power_20 : decode cX5_power 20 = .ok (.ireturn, 1) := by decide +kernel
theorem dX5_isLess_0 : decode cX5_isLess 0 = .ok (.lload_n 0, 1) := by decide +kernel
theorem dX5_isLess_1 : decode cX5_isLess 1 = .ok (.lload 6, 2) := by decide +kernel
theorem dX5_isLess_3 : decode cX5_isLess 3 = .ok (.lmul, 1) := by decide +kernel
theorem dX5_isLess_4 : decode cX5_isLess 4 = .ok (.lload 4, 2) := by decide +kernel
theorem dX5_isLess_6 : decode cX5_isLess 6 = .ok (.lload_n 2, 1) := by decide +kernel
theorem dX5_isLess_7 : decode cX5_isLess 7 = .ok (.lmul, 1) := by decide +kernel
theorem dX5_isLess_8 : decode cX5_isLess 8 = .ok (.lcmp, 1) := by decide +kernel
theorem dX5_isLess_9 : decode cX5_isLess 9 = .ok (.ifCond .ge 7, 3) := by decide +kernel
theorem dX5_isLess_12 : decode cX5_isLess 12 = .ok (.iconst 1, 1) := by decide +kernel
theorem dX5_isLess_13 : decode cX5_isLess 13 = .ok (.goto 4, 3) := by decide +kernel
theorem dX5_isLess_16 : decode cX5_isLess 16 = .ok (.iconst 0, 1) := by decide +kernel
theorem dX5_isLess_17 : decode cX5_isLess 17 = .ok (.ireturn, 1) := by decide +kernel
theorem dX5_told_0 : decode cX5_told 0 = .ok (.lload_n 0, 1) := by decide +kernel
theorem dX5_told_1 : decode cX5_told 1 = .ok (.invokestatic 234, 3) := by decide +kernel
theorem dX5_told_4 : decode cX5_told 4 = .ok (.lload_n 2, 1) := by decide +kernel
theorem dX5_told_5 : decode cX5_told 5 = .ok (.invokestatic 240, 3) := by decide +kernel
theorem dX5_told_8 : decode cX5_told 8 = .ok (.lstore 5, 2) := by decide +kernel
theorem dX5_told_10 : decode cX5_told 10 = .ok (.lload 5, 2) := by decide +kernel
theorem dX5_told_12 : decode cX5_told 12 = .ok (.lconst 0, 1) := by decide +kernel
theorem dX5_told_13 : decode cX5_told 13 = .ok (.lcmp, 1) := by decide +kernel
theorem dX5_told_14 : decode cX5_told 14 = .ok (.ifCond .ne 5, 3) := by decide +kernel
theorem dX5_told_17 : decode cX5_told 17 = .ok (.lconst 0, 1) := by decide +kernel
theorem dX5_told_18 : decode cX5_told 18 = .ok (.lreturn, 1) := by decide +kernel
theorem dX5_told_19 : decode cX5_told 19 = .ok (.iload 4, 2) := by decide +kernel
theorem dX5_told_21 : decode cX5_told 21 = .ok (.ifCond .eq 7, 3) := by decide +kernel
theorem dX5_told_24 : decode cX5_told 24 = .ok (.lload_n 0, 1) := by decide +kernel
theorem dX5_told_25 : decode cX5_told 25 = .ok (.goto 4, 3) := by decide +kernel
theorem dX5_told_28 : decode cX5_told 28 = .ok (.lload_n 2, 1) := by decide +kernel
theorem dX5_told_29 : decode cX5_told 29 = .ok (.lload 5, 2) := by decide +kernel
theorem dX5_told_31 : decode cX5_told 31 = .ok (.ldiv, 1) := by decide +kernel
theorem dX5_told_32 : decode cX5_told 32 = .ok (.lreturn, 1) := by decide +kernel
theorem dX5_commonDivisor_0 : decode cX5_commonDivisor 0 = .ok (.lload_n 0, 1) := by decide +kernel
theorem dX5_commonDivisor_1 : decode cX5_commonDivisor 1 = .ok (.lstore 4, 2) := by decide +kernel
theorem dX5_commonDivisor_3 : decode cX5_commonDivisor 3 = .ok (.lload_n 2, 1) := by decide +kernel
theorem dX5_commonDivisor_4 : decode cX5_commonDivisor 4 = .ok (.lstore 6, 2) := by decide +kernel
theorem dX5_commonDivisor_6 : decode cX5_commonDivisor 6 = .ok (.iconst 0, 1) := by decide +kernel
theorem dX5_commonDivisor_7 : decode cX5_commonDivisor 7 = .ok (.istore 8, 2) := by decide +kernel
theorem dX5_commonDivisor_9 : decode cX5_commonDivisor 9 = .ok (.iload 8, 2) := by decide +kernel
theorem dX5_commonDivisor_11 : decode cX5_commonDivisor 11 = .ok (.sipush 130, 3) := by decide +kernel
theorem dX5_commonDivisor_14 : decode cX5_commonDivisor 14 = .ok (.if_icmp .ge 31, 3) := by decide +kernel
theorem dX5_commonDivisor_17 : decode cX5_commonDivisor 17 = .ok (.lload 6, 2) := by decide +kernel
theorem dX5_commonDivisor_19 : decode cX5_commonDivisor 19 = .ok (.lconst 0, 1) := by decide +kernel
theorem dX5_commonDivisor_20 : decode cX5_commonDivisor 20 = .ok (.lcmp, 1) := by decide +kernel
theorem dX5_commonDivisor_21 : decode cX5_commonDivisor 21 = .ok (.ifCond .eq 24, 3) := by decide +kernel
theorem dX5_commonDivisor_24 : decode cX5_commonDivisor 24 = .ok (.lload 4, 2) := by decide +kernel
theorem dX5_commonDivisor_26 : decode cX5_commonDivisor 26 = .ok (.lload 6, 2) := by decide +kernel
theorem dX5_commonDivisor_28 : decode cX5_commonDivisor 28 = .ok (.lrem, 1) := by decide +kernel
theorem dX5_commonDivisor_29 : decode cX5_commonDivisor 29 = .ok (.lstore 9, 2) := by decide +kernel
theorem dX5_commonDivisor_31 : decode cX5_commonDivisor 31 = .ok (.lload 6, 2) := by decide +kernel
theorem dX5_commonDivisor_33 : decode cX5_commonDivisor 33 = .ok (.lstore 4, 2) := by decide +kernel
theorem dX5_commonDivisor_35 : decode cX5_commonDivisor 35 = .ok (.lload 9, 2) := by decide +kernel
theorem dX5_commonDivisor_37 : decode cX5_commonDivisor 37 = .ok (.lstore 6, 2) := by decide +kernel
theorem dX5_commonDivisor_39 : decode cX5_commonDivisor 39 = .ok (.iinc 8 1, 3) := by decide +kernel
theorem dX5_commonDivisor_42 : decode cX5_commonDivisor 42 = .ok (.goto (-33), 3) := by decide +kernel
theorem dX5_commonDivisor_45 : decode cX5_commonDivisor 45 = .ok (.lload 4, 2) := by decide +kernel
theorem dX5_commonDivisor_47 : decode cX5_commonDivisor 47 = .ok (.lreturn, 1) := by decide +kernel
theorem dX6_init_0 : decode cX6_init 0 = .ok (.aload_n 0, 1) := by decide +kernel
theorem dX6_init_1 : decode cX6_init 1 = .ok (.invokespecial 7, 3) := by decide +kernel
theorem dX6_init_4 : decode cX6_init 4 = .ok (.aload_n 0, 1) := by decide +kernel
theorem dX6_init_5 : decode cX6_init 5 = .ok (.bipush 90, 2) := by decide +kernel
theorem dX6_init_7 : decode cX6_init 7 = .ok (.newarray .int, 2) := by decide +kernel
theorem dX6_init_9 : decode cX6_init 9 = .ok (.putfield 13, 3) := by decide +kernel
theorem dX6_init_12 : decode cX6_init 12 = .ok (.aload_n 0, 1) := by decide +kernel
theorem dX6_init_13 : decode cX6_init 13 = .ok (.iconst 1, 1) := by decide +kernel
theorem dX6_init_14 : decode cX6_init 14 = .ok (.putfield 17, 3) := by decide +kernel
theorem dX6_init_17 : decode cX6_init 17 = .ok (.aload_n 0, 1) := by decide +kernel
theorem dX6_init_18 : decode cX6_init 18 = .ok (.bipush 18, 2) := by decide +kernel
theorem dX6_init_20 : decode cX6_init 20 = .ok (.newarray .int, 2) := by decide +kernel
theorem dX6_init_22 : decode cX6_init 22 = .ok (.putfield 20, 3) := by decide +kernel
theorem dX6_init_25 : decode cX6_init 25 = .ok (.aload_n 0, 1) := by decide +kernel
theorem dX6_init_26 : decode cX6_init 26 = .ok (.bipush 18, 2) := by decide +kernel
theorem dX6_init_28 : decode cX6_init 28 = .ok (.newarray .int, 2) := by decide +kernel
theorem dX6_init_30 : decode cX6_init 30 = .ok (.putfield 23, 3) := by decide +kernel
theorem dX6_init_33 : decode cX6_init 33 = .ok (.aload_n 0, 1) := by decide +kernel
theorem dX6_init_34 : decode cX6_init 34 = .ok (.bipush 18, 2) := by decide +kernel
theorem dX6_init_36 : decode cX6_init 36 = .ok (.newarray .int, 2) := by decide +kernel
theorem dX6_init_38 : decode cX6_init 38 = .ok (.putfield 26, 3) := by decide +kernel
theorem dX6_init_41 : decode cX6_init 41 = .ok (.aload_n 0, 1) := by decide +kernel
theorem dX6_init_42 : decode cX6_init 42 = .ok (.bipush 18, 2) := by decide +kernel
theorem dX6_init_44 : decode cX6_init 44 = .ok (.newarray .int, 2) := by decide +kernel
theorem dX6_init_46 : decode cX6_init 46 = .ok (.putfield 29, 3) := by decide +kernel
theorem dX6_init_49 : decode cX6_init 49 = .ok (.aload_n 0, 1) := by decide +kernel
theorem dX6_init_50 : decode cX6_init 50 = .ok (.sipush 252, 3) := by decide +kernel
theorem dX6_init_53 : decode cX6_init 53 = .ok (.newarray .int, 2) := by decide +kernel
theorem dX6_init_55 : decode cX6_init 55 = .ok (.putfield 32, 3) := by decide +kernel
theorem dX6_init_58 : decode cX6_init 58 = .ok (.aload_n 0, 1) := by decide +kernel
theorem dX6_init_59 : decode cX6_init 59 = .ok (.bipush 36, 2) := by decide +kernel
theorem dX6_init_61 : decode cX6_init 61 = .ok (.newarray .int, 2) := by decide +kernel
theorem dX6_init_63 : decode cX6_init 63 = .ok (.putfield 35, 3) := by decide +kernel
theorem dX6_init_66 : decode cX6_init 66 = .ok (.aload_n 0, 1) := by decide +kernel
theorem dX6_init_67 : decode cX6_init 67 = .ok (.iconst 2, 1) := by decide +kernel
theorem dX6_init_68 : decode cX6_init 68 = .ok (.newarray .boolean, 2) := by decide +kernel
theorem dX6_init_70 : decode cX6_init 70 = .ok (.putfield 38, 3) := by decide +kernel
theorem dX6_init_73 : decode cX6_init 73 = .ok (.aload_n 0, 1) := by decide +kernel
theorem dX6_init_74 : decode cX6_init 74 = .ok (.bipush 25, 2) := by decide +kernel
theorem dX6_init_76 : decode cX6_init 76 = .ok (.newarray .long, 2) := by decide +kernel
theorem dX6_init_78 : decode cX6_init 78 = .ok (.putfield 42, 3) := by decide +kernel
theorem dX6_init_81 : decode cX6_init 81 = .ok (.aload_n 0, 1) := by decide +kernel
theorem dX6_init_82 : decode cX6_init 82 = .ok (.iconst 5, 1) := by decide +kernel
theorem dX6_init_83 : decode cX6_init 83 = .ok (.newarray .long, 2) := by decide +kernel
theorem dX6_init_85 : decode cX6_init 85 = .ok (.putfield 46, 3) := by decide +kernel
theorem dX6_init_88 : decode cX6_init 88 = .ok (.aload_n 0, 1) := by decide +kernel
theorem dX6_init_89 : decode cX6_init 89 = .ok (.bipush 25, 2) := by decide +kernel
theorem dX6_init_91 : decode cX6_init 91 = .ok (.newarray .long, 2) := by decide +kernel
theorem dX6_init_93 : decode cX6_init 93 = .ok (.putfield 49, 3) := by decide +kernel
theorem dX6_init_96 : decode cX6_init 96 = .ok (.aload_n 0, 1) := by decide +kernel
theorem dX6_init_97 : decode cX6_init 97 = .ok (.iconst 5, 1) := by decide +kernel
theorem dX6_init_98 : decode cX6_init 98 = .ok (.newarray .int, 2) := by decide +kernel
theorem dX6_init_100 : decode cX6_init 100 = .ok (.putfield 52, 3) := by decide +kernel
theorem dX6_init_103 : decode cX6_init 103 = .ok (.aload_n 0, 1) := by decide +kernel
theorem dX6_init_104 : decode cX6_init 104 = .ok (.iconst 5, 1) := by decide +kernel
theorem dX6_init_105 : decode cX6_init 105 = .ok (.newarray .int, 2) := by decide +kernel
theorem dX6_init_107 : decode cX6_init 107 = .ok (.putfield 55, 3) := by decide +kernel
theorem dX6_init_110 : decode cX6_init 110 = .ok (.aload_n 0, 1) := by decide +kernel
theorem dX6_init_111 : decode cX6_init 111 = .ok (.iconst 1, 1) := by decide +kernel
theorem dX6_init_112 : decode cX6_init 112 = .ok (.putfield 58, 3) := by decide +kernel
theorem dX6_init_115 : decode cX6_init 115 = .ok (.return_, 1) := by decide +kernel
theorem dX6_in_0 : decode cX6_in 0 = .ok (.lload_n 0, 1) := by decide +kernel
theorem dX6_in_1 : decode cX6_in 1 = .ok (.lload_n 2, 1) := by decide +kernel
theorem dX6_in_2 : decode cX6_in 2 = .ok (.lcmp, 1) := by decide +kernel
theorem dX6_in_3 : decode cX6_in 3 = .ok (.ifCond .lt 14, 3) := by decide +kernel
theorem dX6_in_6 : decode cX6_in 6 = .ok (.lload_n 0, 1) := by decide +kernel
theorem dX6_in_7 : decode cX6_in 7 = .ok (.lload 4, 2) := by decide +kernel
theorem dX6_in_9 : decode cX6_in 9 = .ok (.lcmp, 1) := by decide +kernel
theorem dX6_in_10 : decode cX6_in 10 = .ok (.ifCond .gt 7, 3) := by decide +kernel
theorem dX6_in_13 : decode cX6_in 13 = .ok (.iconst 1, 1) := by decide +kernel
theorem dX6_in_14 : decode cX6_in 14 = .ok (.goto 4, 3) := by decide +kernel
theorem dX6_in_17 : decode cX6_in 17 = .ok (.iconst 0, 1) := by decide +kernel
theorem dX6_in_18 : decode cX6_in 18 = .ok (.ireturn, 1) := by decide +kernel
theorem dX6_has_0 : decode cX6_has 0 = .ok (.iload_n 0, 1) := by decide +kernel
theorem dX6_has_1 : decode cX6_has 1 = .ok (.iload_n 1, 1) := by decide +kernel
theorem dX6_has_2 : decode cX6_has 2 = .ok (.ishr, 1) := by decide +kernel
theorem dX6_has_3 : decode cX6_has 3 = .ok (.iconst 1, 1) := by decide +kernel
theorem dX6_has_4 : decode cX6_has 4 = .ok (.iand, 1) := by decide +kernel
theorem dX6_has_5 : decode cX6_has 5 = .ok (.iconst 1, 1) := by decide +kernel
theorem dX6_has_6 : decode cX6_has 6 = .ok (.if_icmp .ne 7, 3) := by decide +kernel
theorem dX6_has_9 : decode cX6_has 9 = .ok (.iconst 1, 1) := by decide +kernel
theorem dX6_has_10 : decode cX6_has 10 = .ok (.goto 4, 3) := by decide +kernel
theorem dX6_has_13 : decode cX6_has 13 = .ok (.iconst 0, 1) := by decide +kernel
theorem dX6_has_14 : decode cX6_has 14 = .ok (.ireturn, 1) := by decide +kernel
theorem dX6_ones_0 : decode cX6_ones 0 = .ok (.iconst 0, 1) := by decide +kernel
theorem dX6_ones_1 : decode cX6_ones 1 = .ok (.istore_n 1, 1) := by decide +kernel
theorem dX6_ones_2 : decode cX6_ones 2 = .ok (.iconst 0, 1) := by decide +kernel
theorem dX6_ones_3 : decode cX6_ones 3 = .ok (.istore_n 2, 1) := by decide +kernel
theorem dX6_ones_4 : decode cX6_ones 4 = .ok (.iload_n 2, 1) := by decide +kernel
theorem dX6_ones_5 : decode cX6_ones 5 = .ok (.bipush 8, 2) := by decide +kernel
theorem dX6_ones_7 : decode cX6_ones 7 = .ok (.if_icmp .ge 17, 3) := by decide +kernel
theorem dX6_ones_10 : decode cX6_ones 10 = .ok (.iload_n 1, 1) := by decide +kernel
theorem dX6_ones_11 : decode cX6_ones 11 = .ok (.iload_n 0, 1) := by decide +kernel
theorem dX6_ones_12 : decode cX6_ones 12 = .ok (.iload_n 2, 1) := by decide +kernel
theorem dX6_ones_13 : decode cX6_ones 13 = .ok (.ishr, 1) := by decide +kernel
theorem dX6_ones_14 : decode cX6_ones 14 = .ok (.iconst 1, 1) := by decide +kernel
theorem dX6_ones_15 : decode cX6_ones 15 = .ok (.iand, 1) := by decide +kernel
theorem dX6_ones_16 : decode cX6_ones 16 = .ok (.iadd, 1) := by decide +kernel
theorem dX6_ones_17 : decode cX6_ones 17 = .ok (.istore_n 1, 1) := by decide +kernel
theorem dX6_ones_18 : decode cX6_ones 18 = .ok (.iinc 2 1, 3) := by decide +kernel
theorem dX6_ones_21 : decode cX6_ones 21 = .ok (.goto (-17), 3) := by decide +kernel
theorem dX6_ones_24 : decode cX6_ones 24 = .ok (.iload_n 1, 1) := by decide +kernel
theorem dX6_ones_25 : decode cX6_ones 25 = .ok (.ireturn, 1) := by decide +kernel
theorem dX6_power_0 : decode cX6_power 0 = .ok (.iconst 1, 1) := by decide +kernel
theorem dX6_power_1 : decode cX6_power 1 = .ok (.istore_n 2, 1) := by decide +kernel
theorem dX6_power_2 : decode cX6_power 2 = .ok (.iconst 0, 1) := by decide +kernel
theorem dX6_power_3 : decode cX6_power 3 = .ok (.istore_n 3, 1) := by decide +kernel
theorem dX6_power_4 : decode cX6_power 4 = .ok (.iload_n 3, 1) := by decide +kernel
theorem dX6_power_5 : decode cX6_power 5 = .ok (.iload_n 1, 1) := by decide +kernel
theorem dX6_power_6 : decode cX6_power 6 = .ok (.if_icmp .ge 13, 3) := by decide +kernel
theorem dX6_power_9 : decode cX6_power 9 = .ok (.iload_n 2, 1) := by decide +kernel
theorem dX6_power_10 : decode cX6_power 10 = .ok (.iload_n 0, 1) := by decide +kernel
theorem dX6_power_11 : decode cX6_power 11 = .ok (.imul, 1) := by decide +kernel
theorem dX6_power_12 : decode cX6_power 12 = .ok (.istore_n 2, 1) := by decide +kernel
theorem dX6_power_13 : decode cX6_power 13 = .ok (.iinc 3 1, 3) := by decide +kernel
theorem dX6_power_16 : decode cX6_power 16 = .ok (.goto (-12), 3) := by decide +kernel
theorem dX6_power_19 : decode cX6_power 19 = .ok (.iload_n 2, 1) := by decide +kernel
theorem dX6_power_20 : decode cX6_power 20 = .ok (.ireturn, 1) := by decide +kernel
theorem dX6_copy_0 : decode cX6_copy 0 = .ok (.iconst 0, 1) := by decide +kernel
theorem dX6_copy_1 : decode cX6_copy 1 = .ok (.istore_n 2, 1) := by decide +kernel
theorem dX6_copy_2 : decode cX6_copy 2 = .ok (.iload_n 2, 1) := by decide +kernel
theorem dX6_copy_3 : decode cX6_copy 3 = .ok (.bipush 18, 2) := by decide +kernel
theorem dX6_copy_5 : decode cX6_copy 5 = .ok (.if_icmp .ge 15, 3) := by decide +kernel
theorem dX6_copy_8 : decode cX6_copy 8 = .ok (.aload_n 1, 1) := by decide +kernel
theorem dX6_copy_9 : decode cX6_copy 9 = .ok (.iload_n 2, 1) := by decide +kernel
theorem dX6_copy_10 : decode cX6_copy 10 = .ok (.aload_n 0, 1) := by decide +kernel
theorem dX6_copy_11 : decode cX6_copy 11 = .ok (.iload_n 2, 1) := by decide +kernel
theorem dX6_copy_12 : decode cX6_copy 12 = .ok (.iaload, 1) := by decide +kernel
theorem dX6_copy_13 : decode cX6_copy 13 = .ok (.iastore, 1) := by decide +kernel
theorem dX6_copy_14 : decode cX6_copy 14 = .ok (.iinc 2 1, 3) := by decide +kernel
theorem dX6_copy_17 : decode cX6_copy 17 = .ok (.goto (-15), 3) := by decide +kernel
theorem dX6_copy_20 : decode cX6_copy 20 = .ok (.return_, 1) := by decide +kernel
theorem dX6_noWeighing_0 : decode cX6_noWeighing 0 = .ok (.iload_n 1, 1) := by decide +kernel
theorem dX6_noWeighing_1 : decode cX6_noWeighing 1 = .ok (.i2l, 1) := by decide +kernel
theorem dX6_noWeighing_2 : decode cX6_noWeighing 2 = .ok (.lconst 0, 1) := by decide +kernel
theorem dX6_noWeighing_3 : decode cX6_noWeighing 3 = .ok (.aload_n 0, 1) := by decide +kernel
theorem dX6_noWeighing_4 : decode cX6_noWeighing 4 = .ok (.getfield 23, 3) := by decide +kernel
theorem dX6_noWeighing_7 : decode cX6_noWeighing 7 = .ok (.iconst 1, 1) := by decide +kernel
theorem dX6_noWeighing_8 : decode cX6_noWeighing 8 = .ok (.iaload, 1) := by decide +kernel
theorem dX6_noWeighing_9 : decode cX6_noWeighing 9 = .ok (.iconst 1, 1) := by decide +kernel
theorem dX6_noWeighing_10 : decode cX6_noWeighing 10 = .ok (.isub, 1) := by decide +kernel
theorem dX6_noWeighing_11 : decode cX6_noWeighing 11 = .ok (.i2l, 1) := by decide +kernel
theorem dX6_noWeighing_12 : decode cX6_noWeighing 12 = .ok (.invokestatic 61, 3) := by decide +kernel
theorem dX6_noWeighing_15 : decode cX6_noWeighing 15 = .ok (.ifCond .ne 7, 3) := by decide +kernel
theorem dX6_noWeighing_18 : decode cX6_noWeighing 18 = .ok (.iconst 1, 1) := by decide +kernel
theorem dX6_noWeighing_19 : decode cX6_noWeighing 19 = .ok (.goto 4, 3) := by decide +kernel
theorem dX6_noWeighing_22 : decode cX6_noWeighing 22 = .ok (.iconst 0, 1) := by decide +kernel
theorem dX6_noWeighing_23 : decode cX6_noWeighing 23 = .ok (.ireturn, 1) := by decide +kernel
theorem dX6_allOf_0 : decode cX6_allOf 0 = .ok (.iconst 1, 1) := by decide +kernel
theorem dX6_allOf_1 : decode cX6_allOf 1 = .ok (.aload_n 0, 1) := by decide +kernel
theorem dX6_allOf_2 : decode cX6_allOf 2 = .ok (.iconst 1, 1) := by decide +kernel
theorem dX6_allOf_3 : decode cX6_allOf 3 = .ok (.iaload, 1) := by decide +kernel
theorem dX6_allOf_4 : decode cX6_allOf 4 = .ok (.ishl, 1) := by decide +kernel
theorem dX6_allOf_5 : decode cX6_allOf 5 = .ok (.iconst 1, 1) := by decide +kernel
theorem dX6_allOf_6 : decode cX6_allOf 6 = .ok (.isub, 1) := by decide +kernel
theorem dX6_allOf_7 : decode cX6_allOf 7 = .ok (.ireturn, 1) := by decide +kernel
theorem dX6_write_0 : decode cX6_write 0 = .ok (.aload_n 0, 1) := by decide +kernel
theorem dX6_write_1 : decode cX6_write 1 = .ok (.iconst 0, 1) := by decide +kernel
theorem dX6_write_2 : decode cX6_write 2 = .ok (.putfield 1, 3) := by decide +kernel
theorem dX6_write_5 : decode cX6_write 5 = .ok (.iload_n 1, 1) := by decide +kernel
theorem dX6_write_6 : decode cX6_write 6 = .ok (.i2l, 1) := by decide +kernel
theorem dX6_write_7 : decode cX6_write 7 = .ok (.lconst 0, 1) := by decide +kernel
theorem dX6_write_8 : decode cX6_write 8 = .ok (.ldc2_w 65, 3) := by decide +kernel
theorem dX6_write_11 : decode cX6_write 11 = .ok (.invokestatic 61, 3) := by decide +kernel
theorem dX6_write_14 : decode cX6_write 14 = .ok (.ifCond .ne 6, 3) := by decide +kernel
theorem dX6_write_17 : decode cX6_write 17 = .ok (.bipush (-2), 2) := by decide +kernel
theorem dX6_write_19 : decode cX6_write 19 = .ok (.ireturn, 1) := by decide +kernel
theorem dX6_write_20 : decode cX6_write 20 = .ok (.aload_n 0, 1) := by decide +kernel
theorem dX6_write_21 : decode cX6_write 21 = .ok (.getfield 67, 3) := by decide +kernel
theorem dX6_write_24 : decode cX6_write 24 = .ok (.bipush 90, 2) := by decide +kernel
end
section
theorem dX6_write_26 : decode cX6_write 26 = .ok (.if_icmp .ne 6, 3) := by decide +kernel
theorem dX6_write_29 : decode cX6_write 29 = .ok (.bipush (-4), 2) := by decide +kernel
theorem dX6_write_31 : decode cX6_write 31 = .ok (.ireturn, 1) := by decide +kernel
theorem dX6_write_32 : decode cX6_write 32 = .ok (.aload_n 0, 1) := by decide +kernel
theorem dX6_write_33 : decode cX6_write 33 = .ok (.getfield 13, 3) := by decide +kernel
theorem dX6_write_36 : decode cX6_write 36 = .ok (.aload_n 0, 1) := by decide +kernel
theorem dX6_write_37 : decode cX6_write 37 = .ok (.getfield 67, 3) := by decide +kernel
theorem dX6_write_40 : decode cX6_write 40 = .ok (.iload_n 1, 1) := by decide +kernel
theorem dX6_write_41 : decode cX6_write 41 = .ok (.iastore, 1) := by decide +kernel
theorem dX6_write_42 : decode cX6_write 42 = .ok (.aload_n 0, 1) := by decide +kernel
theorem dX6_write_43 : decode cX6_write 43 = .ok (.dup, 1) := by decide +kernel
theorem dX6_write_44 : decode cX6_write 44 = .ok (.getfield 67, 3) := by decide +kernel
theorem dX6_write_47 : decode cX6_write 47 = .ok (.iconst 1, 1) := by decide +kernel
theorem dX6_write_48 : decode cX6_write 48 = .ok (.iadd, 1) := by decide +kernel
theorem dX6_write_49 : decode cX6_write 49 = .ok (.putfield 67, 3) := by decide +kernel
theorem dX6_write_52 : decode cX6_write 52 = .ok (.aload_n 0, 1) := by decide +kernel
theorem dX6_write_53 : decode cX6_write 53 = .ok (.getfield 67, 3) := by decide +kernel
theorem dX6_write_56 : decode cX6_write 56 = .ok (.ireturn, 1) := by decide +kernel
theorem dX6_wipe_0 : decode cX6_wipe 0 = .ok (.aload_n 0, 1) := by decide +kernel
theorem dX6_wipe_1 : decode cX6_wipe 1 = .ok (.iconst 0, 1) := by decide +kernel
theorem dX6_wipe_2 : decode cX6_wipe 2 = .ok (.putfield 1, 3) := by decide +kernel
theorem dX6_wipe_5 : decode cX6_wipe 5 = .ok (.aload_n 0, 1) := by decide +kernel
theorem dX6_wipe_6 : decode cX6_wipe 6 = .ok (.getfield 67, 3) := by decide +kernel
theorem dX6_wipe_9 : decode cX6_wipe 9 = .ok (.istore_n 1, 1) := by decide +kernel
theorem dX6_wipe_10 : decode cX6_wipe 10 = .ok (.aload_n 0, 1) := by decide +kernel
theorem dX6_wipe_11 : decode cX6_wipe 11 = .ok (.iconst 0, 1) := by decide +kernel
theorem dX6_wipe_12 : decode cX6_wipe 12 = .ok (.putfield 67, 3) := by decide +kernel
theorem dX6_wipe_15 : decode cX6_wipe 15 = .ok (.iload_n 1, 1) := by decide +kernel
theorem dX6_wipe_16 : decode cX6_wipe 16 = .ok (.ireturn, 1) := by decide +kernel
theorem dX6_figure_0 : decode cX6_figure 0 = .ok (.aload_n 0, 1) := by decide +kernel
theorem dX6_figure_1 : decode cX6_figure 1 = .ok (.getfield 70, 3) := by decide +kernel
theorem dX6_figure_4 : decode cX6_figure 4 = .ok (.aload_n 0, 1) := by decide +kernel
theorem dX6_figure_5 : decode cX6_figure 5 = .ok (.getfield 67, 3) := by decide +kernel
theorem dX6_figure_8 : decode cX6_figure 8 = .ok (.if_icmp .ge 18, 3) := by decide +kernel
theorem dX6_figure_11 : decode cX6_figure 11 = .ok (.aload_n 0, 1) := by decide +kernel
theorem dX6_figure_12 : decode cX6_figure 12 = .ok (.getfield 13, 3) := by decide +kernel
theorem dX6_figure_15 : decode cX6_figure 15 = .ok (.aload_n 0, 1) := by decide +kernel
theorem dX6_figure_16 : decode cX6_figure 16 = .ok (.getfield 70, 3) := by decide +kernel
theorem dX6_figure_19 : decode cX6_figure 19 = .ok (.iaload, 1) := by decide +kernel
theorem dX6_figure_20 : decode cX6_figure 20 = .ok (.bipush 48, 2) := by decide +kernel
theorem dX6_figure_22 : decode cX6_figure 22 = .ok (.isub, 1) := by decide +kernel
theorem dX6_figure_23 : decode cX6_figure 23 = .ok (.goto 5, 3) := by decide +kernel
theorem dX6_figure_26 : decode cX6_figure 26 = .ok (.bipush (-9), 2) := by decide +kernel
theorem dX6_figure_28 : decode cX6_figure 28 = .ok (.istore_n 3, 1) := by decide +kernel
theorem dX6_figure_29 : decode cX6_figure 29 = .ok (.iload_n 3, 1) := by decide +kernel
theorem dX6_figure_30 : decode cX6_figure 30 = .ok (.i2l, 1) := by decide +kernel
theorem dX6_figure_31 : decode cX6_figure 31 = .ok (.iload_n 1, 1) := by decide +kernel
theorem dX6_figure_32 : decode cX6_figure 32 = .ok (.i2l, 1) := by decide +kernel
theorem dX6_figure_33 : decode cX6_figure 33 = .ok (.iload_n 2, 1) := by decide +kernel
theorem dX6_figure_34 : decode cX6_figure 34 = .ok (.i2l, 1) := by decide +kernel
theorem dX6_figure_35 : decode cX6_figure 35 = .ok (.invokestatic 61, 3) := by decide +kernel
theorem dX6_figure_38 : decode cX6_figure 38 = .ok (.ifCond .ne 6, 3) := by decide +kernel
theorem dX6_figure_41 : decode cX6_figure 41 = .ok (.bipush (-9), 2) := by decide +kernel
theorem dX6_figure_43 : decode cX6_figure 43 = .ok (.ireturn, 1) := by decide +kernel
theorem dX6_figure_44 : decode cX6_figure 44 = .ok (.aload_n 0, 1) := by decide +kernel
theorem dX6_figure_45 : decode cX6_figure 45 = .ok (.dup, 1) := by decide +kernel
theorem dX6_figure_46 : decode cX6_figure 46 = .ok (.getfield 70, 3) := by decide +kernel
theorem dX6_figure_49 : decode cX6_figure 49 = .ok (.iconst 1, 1) := by decide +kernel
theorem dX6_figure_50 : decode cX6_figure 50 = .ok (.iadd, 1) := by decide +kernel
theorem dX6_figure_51 : decode cX6_figure 51 = .ok (.putfield 70, 3) := by decide +kernel
theorem dX6_figure_54 : decode cX6_figure 54 = .ok (.iload_n 3, 1) := by decide +kernel
theorem dX6_figure_55 : decode cX6_figure 55 = .ok (.ireturn, 1) := by decide +kernel
theorem dX6_sign_0 : decode cX6_sign 0 = .ok (.aload_n 0, 1) := by decide +kernel
theorem dX6_sign_1 : decode cX6_sign 1 = .ok (.getfield 70, 3) := by decide +kernel
theorem dX6_sign_4 : decode cX6_sign 4 = .ok (.aload_n 0, 1) := by decide +kernel
theorem dX6_sign_5 : decode cX6_sign 5 = .ok (.getfield 67, 3) := by decide +kernel
theorem dX6_sign_8 : decode cX6_sign 8 = .ok (.if_icmp .ge 15, 3) := by decide +kernel
theorem dX6_sign_11 : decode cX6_sign 11 = .ok (.aload_n 0, 1) := by decide +kernel
theorem dX6_sign_12 : decode cX6_sign 12 = .ok (.getfield 13, 3) := by decide +kernel
theorem dX6_sign_15 : decode cX6_sign 15 = .ok (.aload_n 0, 1) := by decide +kernel
theorem dX6_sign_16 : decode cX6_sign 16 = .ok (.getfield 70, 3) := by decide +kernel
theorem dX6_sign_19 : decode cX6_sign 19 = .ok (.iaload, 1) := by decide +kernel
theorem dX6_sign_20 : decode cX6_sign 20 = .ok (.goto 4, 3) := by decide +kernel
theorem dX6_sign_23 : decode cX6_sign 23 = .ok (.iconst 0, 1) := by decide +kernel
theorem dX6_sign_24 : decode cX6_sign 24 = .ok (.istore_n 2, 1) := by decide +kernel
theorem dX6_sign_25 : decode cX6_sign 25 = .ok (.iload_n 2, 1) := by decide +kernel
theorem dX6_sign_26 : decode cX6_sign 26 = .ok (.bipush 43, 2) := by decide +kernel
theorem dX6_sign_28 : decode cX6_sign 28 = .ok (.if_icmp .ne 7, 3) := by decide +kernel
theorem dX6_sign_31 : decode cX6_sign 31 = .ok (.iconst 1, 1) := by decide +kernel
theorem dX6_sign_32 : decode cX6_sign 32 = .ok (.goto 29, 3) := by decide +kernel
theorem dX6_sign_35 : decode cX6_sign 35 = .ok (.iload_n 2, 1) := by decide +kernel
theorem dX6_sign_36 : decode cX6_sign 36 = .ok (.bipush 45, 2) := by decide +kernel
theorem dX6_sign_38 : decode cX6_sign 38 = .ok (.if_icmp .ne 7, 3) := by decide +kernel
theorem dX6_sign_41 : decode cX6_sign 41 = .ok (.iconst 2, 1) := by decide +kernel
theorem dX6_sign_42 : decode cX6_sign 42 = .ok (.goto 19, 3) := by decide +kernel
theorem dX6_sign_45 : decode cX6_sign 45 = .ok (.iload_n 2, 1) := by decide +kernel
theorem dX6_sign_46 : decode cX6_sign 46 = .ok (.bipush 48, 2) := by decide +kernel
theorem dX6_sign_48 : decode cX6_sign 48 = .ok (.if_icmp .ne 11, 3) := by decide +kernel
theorem dX6_sign_51 : decode cX6_sign 51 = .ok (.iload_n 1, 1) := by decide +kernel
theorem dX6_sign_52 : decode cX6_sign 52 = .ok (.ifCond .eq 7, 3) := by decide +kernel
theorem dX6_sign_55 : decode cX6_sign 55 = .ok (.iconst 0, 1) := by decide +kernel
theorem dX6_sign_56 : decode cX6_sign 56 = .ok (.goto 5, 3) := by decide +kernel
theorem dX6_sign_59 : decode cX6_sign 59 = .ok (.bipush (-9), 2) := by decide +kernel
theorem dX6_sign_61 : decode cX6_sign 61 = .ok (.istore_n 3, 1) := by decide +kernel
theorem dX6_sign_62 : decode cX6_sign 62 = .ok (.aload_n 0, 1) := by decide +kernel
theorem dX6_sign_63 : decode cX6_sign 63 = .ok (.dup, 1) := by decide +kernel
theorem dX6_sign_64 : decode cX6_sign 64 = .ok (.getfield 70, 3) := by decide +kernel
theorem dX6_sign_67 : decode cX6_sign 67 = .ok (.iload_n 3, 1) := by decide +kernel
theorem dX6_sign_68 : decode cX6_sign 68 = .ok (.bipush (-9), 2) := by decide +kernel
theorem dX6_sign_70 : decode cX6_sign 70 = .ok (.if_icmp .ne 7, 3) := by decide +kernel
theorem dX6_sign_73 : decode cX6_sign 73 = .ok (.iconst 0, 1) := by decide +kernel
theorem dX6_sign_74 : decode cX6_sign 74 = .ok (.goto 4, 3) := by decide +kernel
theorem dX6_sign_77 : decode cX6_sign 77 = .ok (.iconst 1, 1) := by decide +kernel
theorem dX6_sign_78 : decode cX6_sign 78 = .ok (.iadd, 1) := by decide +kernel
theorem dX6_sign_79 : decode cX6_sign 79 = .ok (.putfield 70, 3) := by decide +kernel
theorem dX6_sign_82 : decode cX6_sign 82 = .ok (.iload_n 3, 1) := by decide +kernel
theorem dX6_sign_83 : decode cX6_sign 83 = .ok (.ireturn, 1) := by decide +kernel
theorem dX6_readHead_0 : decode cX6_readHead 0 = .ok (.aload_n 0, 1) := by decide +kernel
theorem dX6_readHead_1 : decode cX6_readHead 1 = .ok (.getfield 67, 3) := by decide +kernel
theorem dX6_readHead_4 : decode cX6_readHead 4 = .ok (.ifCond .eq 14, 3) := by decide +kernel
theorem dX6_readHead_7 : decode cX6_readHead 7 = .ok (.aload_n 0, 1) := by decide +kernel
theorem dX6_readHead_8 : decode cX6_readHead 8 = .ok (.getfield 13, 3) := by decide +kernel
theorem dX6_readHead_11 : decode cX6_readHead 11 = .ok (.iconst 0, 1) := by decide +kernel
theorem dX6_readHead_12 : decode cX6_readHead 12 = .ok (.iaload, 1) := by decide +kernel
theorem dX6_readHead_13 : decode cX6_readHead 13 = .ok (.bipush 66, 2) := by decide +kernel
theorem dX6_readHead_15 : decode cX6_readHead 15 = .ok (.if_icmp .eq 5, 3) := by decide +kernel
theorem dX6_readHead_18 : decode cX6_readHead 18 = .ok (.iconst 0, 1) := by decide +kernel
theorem dX6_readHead_19 : decode cX6_readHead 19 = .ok (.ireturn, 1) := by decide +kernel
theorem dX6_readHead_20 : decode cX6_readHead 20 = .ok (.aload_n 0, 1) := by decide +kernel
theorem dX6_readHead_21 : decode cX6_readHead 21 = .ok (.iconst 1, 1) := by decide +kernel
theorem dX6_readHead_22 : decode cX6_readHead 22 = .ok (.putfield 70, 3) := by decide +kernel
theorem dX6_readHead_25 : decode cX6_readHead 25 = .ok (.aload_n 0, 1) := by decide +kernel
theorem dX6_readHead_26 : decode cX6_readHead 26 = .ok (.aload_n 0, 1) := by decide +kernel
theorem dX6_readHead_27 : decode cX6_readHead 27 = .ok (.iconst 1, 1) := by decide +kernel
theorem dX6_readHead_28 : decode cX6_readHead 28 = .ok (.iconst 4, 1) := by decide +kernel
theorem dX6_readHead_29 : decode cX6_readHead 29 = .ok (.invokevirtual 73, 3) := by decide +kernel
theorem dX6_readHead_32 : decode cX6_readHead 32 = .ok (.putfield 77, 3) := by decide +kernel
theorem dX6_readHead_35 : decode cX6_readHead 35 = .ok (.aload_n 0, 1) := by decide +kernel
theorem dX6_readHead_36 : decode cX6_readHead 36 = .ok (.getfield 77, 3) := by decide +kernel
theorem dX6_readHead_39 : decode cX6_readHead 39 = .ok (.bipush (-9), 2) := by decide +kernel
theorem dX6_readHead_41 : decode cX6_readHead 41 = .ok (.if_icmp .ne 8, 3) := by decide +kernel
theorem dX6_readHead_44 : decode cX6_readHead 44 = .ok (.bipush (-9), 2) := by decide +kernel
theorem dX6_readHead_46 : decode cX6_readHead 46 = .ok (.goto 10, 3) := by decide +kernel
theorem dX6_readHead_49 : decode cX6_readHead 49 = .ok (.aload_n 0, 1) := by decide +kernel
theorem dX6_readHead_50 : decode cX6_readHead 50 = .ok (.iconst 0, 1) := by decide +kernel
theorem dX6_readHead_51 : decode cX6_readHead 51 = .ok (.bipush 9, 2) := by decide +kernel
theorem dX6_readHead_53 : decode cX6_readHead 53 = .ok (.invokevirtual 73, 3) := by decide +kernel
theorem dX6_readHead_56 : decode cX6_readHead 56 = .ok (.istore_n 1, 1) := by decide +kernel
theorem dX6_readHead_57 : decode cX6_readHead 57 = .ok (.iload_n 1, 1) := by decide +kernel
theorem dX6_readHead_58 : decode cX6_readHead 58 = .ok (.bipush (-9), 2) := by decide +kernel
theorem dX6_readHead_60 : decode cX6_readHead 60 = .ok (.if_icmp .ne 8, 3) := by decide +kernel
theorem dX6_readHead_63 : decode cX6_readHead 63 = .ok (.bipush (-9), 2) := by decide +kernel
theorem dX6_readHead_65 : decode cX6_readHead 65 = .ok (.goto 10, 3) := by decide +kernel
theorem dX6_readHead_68 : decode cX6_readHead 68 = .ok (.aload_n 0, 1) := by decide +kernel
theorem dX6_readHead_69 : decode cX6_readHead 69 = .ok (.iconst 0, 1) := by decide +kernel
theorem dX6_readHead_70 : decode cX6_readHead 70 = .ok (.bipush 9, 2) := by decide +kernel
theorem dX6_readHead_72 : decode cX6_readHead 72 = .ok (.invokevirtual 73, 3) := by decide +kernel
theorem dX6_readHead_75 : decode cX6_readHead 75 = .ok (.istore_n 2, 1) := by decide +kernel
theorem dX6_readHead_76 : decode cX6_readHead 76 = .ok (.aload_n 0, 1) := by decide +kernel
theorem dX6_readHead_77 : decode cX6_readHead 77 = .ok (.getfield 20, 3) := by decide +kernel
theorem dX6_readHead_80 : decode cX6_readHead 80 = .ok (.iconst 0, 1) := by decide +kernel
theorem dX6_readHead_81 : decode cX6_readHead 81 = .ok (.bipush 10, 2) := by decide +kernel
theorem dX6_readHead_83 : decode cX6_readHead 83 = .ok (.iload_n 1, 1) := by decide +kernel
theorem dX6_readHead_84 : decode cX6_readHead 84 = .ok (.imul, 1) := by decide +kernel
theorem dX6_readHead_85 : decode cX6_readHead 85 = .ok (.iload_n 2, 1) := by decide +kernel
theorem dX6_readHead_86 : decode cX6_readHead 86 = .ok (.iadd, 1) := by decide +kernel
theorem dX6_readHead_87 : decode cX6_readHead 87 = .ok (.iastore, 1) := by decide +kernel
theorem dX6_readHead_88 : decode cX6_readHead 88 = .ok (.iload_n 2, 1) := by decide +kernel
theorem dX6_readHead_89 : decode cX6_readHead 89 = .ok (.bipush (-9), 2) := by decide +kernel
theorem dX6_readHead_91 : decode cX6_readHead 91 = .ok (.if_icmp .eq 7, 3) := by decide +kernel
theorem dX6_readHead_94 : decode cX6_readHead 94 = .ok (.iconst 1, 1) := by decide +kernel
theorem dX6_readHead_95 : decode cX6_readHead 95 = .ok (.goto 4, 3) := by decide +kernel
theorem dX6_readHead_98 : decode cX6_readHead 98 = .ok (.iconst 0, 1) := by decide +kernel
theorem dX6_readHead_99 : decode cX6_readHead 99 = .ok (.ireturn, 1) := by decide +kernel
theorem dX6_readWeighing_0 : decode cX6_readWeighing 0 = .ok (.aload_n 0, 1) := by decide +kernel
theorem dX6_readWeighing_1 : decode cX6_readWeighing 1 = .ok (.getfield 13, 3) := by decide +kernel
theorem dX6_readWeighing_4 : decode cX6_readWeighing 4 = .ok (.aload_n 0, 1) := by decide +kernel
theorem dX6_readWeighing_5 : decode cX6_readWeighing 5 = .ok (.getfield 70, 3) := by decide +kernel
theorem dX6_readWeighing_8 : decode cX6_readWeighing 8 = .ok (.iaload, 1) := by decide +kernel
theorem dX6_readWeighing_9 : decode cX6_readWeighing 9 = .ok (.bipush 119, 2) := by decide +kernel
theorem dX6_readWeighing_11 : decode cX6_readWeighing 11 = .ok (.if_icmp .ne 14, 3) := by decide +kernel
theorem dX6_readWeighing_14 : decode cX6_readWeighing 14 = .ok (.aload_n 0, 1) := by decide +kernel
theorem dX6_readWeighing_15 : decode cX6_readWeighing 15 = .ok (.getfield 20, 3) := by decide +kernel
theorem dX6_readWeighing_18 : decode cX6_readWeighing 18 = .ok (.iconst 1, 1) := by decide +kernel
theorem dX6_readWeighing_19 : decode cX6_readWeighing 19 = .ok (.iaload, 1) := by decide +kernel
theorem dX6_readWeighing_20 : decode cX6_readWeighing 20 = .ok (.bipush 8, 2) := by decide +kernel
theorem dX6_readWeighing_22 : decode cX6_readWeighing 22 = .ok (.if_icmp .ne 5, 3) := by decide +kernel
theorem dX6_readWeighing_25 : decode cX6_readWeighing 25 = .ok (.iconst 0, 1) := by decide +kernel
theorem dX6_readWeighing_26 : decode cX6_readWeighing 26 = .ok (.ireturn, 1) := by decide +kernel
theorem dX6_readWeighing_27 : decode cX6_readWeighing 27 = .ok (.aload_n 0, 1) := by decide +kernel
theorem dX6_readWeighing_28 : decode cX6_readWeighing 28 = .ok (.dup, 1) := by decide +kernel
theorem dX6_readWeighing_29 : decode cX6_readWeighing 29 = .ok (.getfield 70, 3) := by decide +kernel
theorem dX6_readWeighing_32 : decode cX6_readWeighing 32 = .ok (.iconst 1, 1) := by decide +kernel
theorem dX6_readWeighing_33 : decode cX6_readWeighing 33 = .ok (.iadd, 1) := by decide +kernel
theorem dX6_readWeighing_34 : decode cX6_readWeighing 34 = .ok (.putfield 70, 3) := by decide +kernel
theorem dX6_readWeighing_37 : decode cX6_readWeighing 37 = .ok (.iconst 0, 1) := by decide +kernel
theorem dX6_readWeighing_38 : decode cX6_readWeighing 38 = .ok (.istore_n 1, 1) := by decide +kernel
theorem dX6_readWeighing_39 : decode cX6_readWeighing 39 = .ok (.iconst 0, 1) := by decide +kernel
theorem dX6_readWeighing_40 : decode cX6_readWeighing 40 = .ok (.istore_n 2, 1) := by decide +kernel
theorem dX6_readWeighing_41 : decode cX6_readWeighing 41 = .ok (.iload_n 2, 1) := by decide +kernel
theorem dX6_readWeighing_42 : decode cX6_readWeighing 42 = .ok (.aload_n 0, 1) := by decide +kernel
theorem dX6_readWeighing_43 : decode cX6_readWeighing 43 = .ok (.getfield 77, 3) := by decide +kernel
theorem dX6_readWeighing_46 : decode cX6_readWeighing 46 = .ok (.if_icmp .gt 30, 3) := by decide +kernel
theorem dX6_readWeighing_49 : decode cX6_readWeighing 49 = .ok (.aload_n 0, 1) := by decide +kernel
theorem dX6_readWeighing_50 : decode cX6_readWeighing 50 = .ok (.iconst 1, 1) := by decide +kernel
theorem dX6_readWeighing_51 : decode cX6_readWeighing 51 = .ok (.invokevirtual 80, 3) := by decide +kernel
theorem dX6_readWeighing_54 : decode cX6_readWeighing 54 = .ok (.istore_n 3, 1) := by decide +kernel
theorem dX6_readWeighing_55 : decode cX6_readWeighing 55 = .ok (.iload_n 3, 1) := by decide +kernel
theorem dX6_readWeighing_56 : decode cX6_readWeighing 56 = .ok (.bipush (-9), 2) := by decide +kernel
theorem dX6_readWeighing_58 : decode cX6_readWeighing 58 = .ok (.if_icmp .ne 5, 3) := by decide +kernel
theorem dX6_readWeighing_61 : decode cX6_readWeighing 61 = .ok (.iconst 0, 1) := by decide +kernel
theorem dX6_readWeighing_62 : decode cX6_readWeighing 62 = .ok (.ireturn, 1) := by decide +kernel
theorem dX6_readWeighing_63 : decode cX6_readWeighing 63 = .ok (.bipush 10, 2) := by decide +kernel
theorem dX6_readWeighing_65 : decode cX6_readWeighing 65 = .ok (.iload_n 1, 1) := by decide +kernel
theorem dX6_readWeighing_66 : decode cX6_readWeighing 66 = .ok (.imul, 1) := by decide +kernel
theorem dX6_readWeighing_67 : decode cX6_readWeighing 67 = .ok (.iload_n 3, 1) := by decide +kernel
theorem dX6_readWeighing_68 : decode cX6_readWeighing 68 = .ok (.iadd, 1) := by decide +kernel
theorem dX6_readWeighing_69 : decode cX6_readWeighing 69 = .ok (.istore_n 1, 1) := by decide +kernel
theorem dX6_readWeighing_70 : decode cX6_readWeighing 70 = .ok (.iinc 2 1, 3) := by decide +kernel
theorem dX6_readWeighing_73 : decode cX6_readWeighing 73 = .ok (.goto (-32), 3) := by decide +kernel
theorem dX6_readWeighing_76 : decode cX6_readWeighing 76 = .ok (.aload_n 0, 1) := by decide +kernel
theorem dX6_readWeighing_77 : decode cX6_readWeighing 77 = .ok (.iconst 0, 1) := by decide +kernel
theorem dX6_readWeighing_78 : decode cX6_readWeighing 78 = .ok (.invokevirtual 80, 3) := by decide +kernel
theorem dX6_readWeighing_81 : decode cX6_readWeighing 81 = .ok (.istore_n 2, 1) := by decide +kernel
theorem dX6_readWeighing_82 : decode cX6_readWeighing 82 = .ok (.iload_n 2, 1) := by decide +kernel
theorem dX6_readWeighing_83 : decode cX6_readWeighing 83 = .ok (.bipush (-9), 2) := by decide +kernel
theorem dX6_readWeighing_85 : decode cX6_readWeighing 85 = .ok (.if_icmp .ne 5, 3) := by decide +kernel
theorem dX6_readWeighing_88 : decode cX6_readWeighing 88 = .ok (.iconst 0, 1) := by decide +kernel
theorem dX6_readWeighing_89 : decode cX6_readWeighing 89 = .ok (.ireturn, 1) := by decide +kernel
theorem dX6_readWeighing_90 : decode cX6_readWeighing 90 = .ok (.iconst 0, 1) := by decide +kernel
theorem dX6_readWeighing_91 : decode cX6_readWeighing 91 = .ok (.istore_n 3, 1) := by decide +kernel
theorem dX6_readWeighing_92 : decode cX6_readWeighing 92 = .ok (.iconst 0, 1) := by decide +kernel
theorem dX6_readWeighing_93 : decode cX6_readWeighing 93 = .ok (.istore 4, 2) := by decide +kernel
theorem dX6_readWeighing_95 : decode cX6_readWeighing 95 = .ok (.iload 4, 2) := by decide +kernel
theorem dX6_readWeighing_97 : decode cX6_readWeighing 97 = .ok (.iconst 3, 1) := by decide +kernel
theorem dX6_readWeighing_98 : decode cX6_readWeighing 98 = .ok (.if_icmp .ge 35, 3) := by decide +kernel
theorem dX6_readWeighing_101 : decode cX6_readWeighing 101 = .ok (.aload_n 0, 1) := by decide +kernel
theorem dX6_readWeighing_102 : decode cX6_readWeighing 102 = .ok (.iconst 0, 1) := by decide +kernel
theorem dX6_readWeighing_103 : decode cX6_readWeighing 103 = .ok (.bipush 9, 2) := by decide +kernel
theorem dX6_readWeighing_105 : decode cX6_readWeighing 105 = .ok (.invokevirtual 73, 3) := by decide +kernel
theorem dX6_readWeighing_108 : decode cX6_readWeighing 108 = .ok (.istore 5, 2) := by decide +kernel
theorem dX6_readWeighing_110 : decode cX6_readWeighing 110 = .ok (.iload 5, 2) := by decide +kernel
theorem dX6_readWeighing_112 : decode cX6_readWeighing 112 = .ok (.bipush (-9), 2) := by decide +kernel
theorem dX6_readWeighing_114 : decode cX6_readWeighing 114 = .ok (.if_icmp .ne 5, 3) := by decide +kernel
theorem dX6_readWeighing_117 : decode cX6_readWeighing 117 = .ok (.iconst 0, 1) := by decide +kernel
theorem dX6_readWeighing_118 : decode cX6_readWeighing 118 = .ok (.ireturn, 1) := by decide +kernel
theorem dX6_readWeighing_119 : decode cX6_readWeighing 119 = .ok (.bipush 10, 2) := by decide +kernel
theorem dX6_readWeighing_121 : decode cX6_readWeighing 121 = .ok (.iload_n 3, 1) := by decide +kernel
theorem dX6_readWeighing_122 : decode cX6_readWeighing 122 = .ok (.imul, 1) := by decide +kernel
theorem dX6_readWeighing_123 : decode cX6_readWeighing 123 = .ok (.iload 5, 2) := by decide +kernel
theorem dX6_readWeighing_125 : decode cX6_readWeighing 125 = .ok (.iadd, 1) := by decide +kernel
theorem dX6_readWeighing_126 : decode cX6_readWeighing 126 = .ok (.istore_n 3, 1) := by decide +kernel
theorem dX6_readWeighing_127 : decode cX6_readWeighing 127 = .ok (.iinc 4 1, 3) := by decide +kernel
theorem dX6_readWeighing_130 : decode cX6_readWeighing 130 = .ok (.goto (-35), 3) := by decide +kernel
theorem dX6_readWeighing_133 : decode cX6_readWeighing 133 = .ok (.aload_n 0, 1) := by decide +kernel
theorem dX6_readWeighing_134 : decode cX6_readWeighing 134 = .ok (.getfield 20, 3) := by decide +kernel
theorem dX6_readWeighing_137 : decode cX6_readWeighing 137 = .ok (.iconst 2, 1) := by decide +kernel
theorem dX6_readWeighing_138 : decode cX6_readWeighing 138 = .ok (.aload_n 0, 1) := by decide +kernel
theorem dX6_readWeighing_139 : decode cX6_readWeighing 139 = .ok (.getfield 20, 3) := by decide +kernel
theorem dX6_readWeighing_142 : decode cX6_readWeighing 142 = .ok (.iconst 1, 1) := by decide +kernel
theorem dX6_readWeighing_143 : decode cX6_readWeighing 143 = .ok (.iaload, 1) := by decide +kernel
theorem dX6_readWeighing_144 : decode cX6_readWeighing 144 = .ok (.iadd, 1) := by decide +kernel
theorem dX6_readWeighing_145 : decode cX6_readWeighing 145 = .ok (.iload_n 1, 1) := by decide +kernel
theorem dX6_readWeighing_146 : decode cX6_readWeighing 146 = .ok (.iastore, 1) := by decide +kernel
theorem dX6_readWeighing_147 : decode cX6_readWeighing 147 = .ok (.aload_n 0, 1) := by decide +kernel
theorem dX6_readWeighing_148 : decode cX6_readWeighing 148 = .ok (.getfield 20, 3) := by decide +kernel
theorem dX6_readWeighing_151 : decode cX6_readWeighing 151 = .ok (.bipush 10, 2) := by decide +kernel
theorem dX6_readWeighing_153 : decode cX6_readWeighing 153 = .ok (.aload_n 0, 1) := by decide +kernel
theorem dX6_readWeighing_154 : decode cX6_readWeighing 154 = .ok (.getfield 20, 3) := by decide +kernel
theorem dX6_readWeighing_157 : decode cX6_readWeighing 157 = .ok (.iconst 1, 1) := by decide +kernel
theorem dX6_readWeighing_158 : decode cX6_readWeighing 158 = .ok (.iaload, 1) := by decide +kernel
theorem dX6_readWeighing_159 : decode cX6_readWeighing 159 = .ok (.iadd, 1) := by decide +kernel
theorem dX6_readWeighing_160 : decode cX6_readWeighing 160 = .ok (.iload_n 2, 1) := by decide +kernel
theorem dX6_readWeighing_161 : decode cX6_readWeighing 161 = .ok (.iconst 1, 1) := by decide +kernel
theorem dX6_readWeighing_162 : decode cX6_readWeighing 162 = .ok (.if_icmp .ne 7, 3) := by decide +kernel
theorem dX6_readWeighing_165 : decode cX6_readWeighing 165 = .ok (.iload_n 3, 1) := by decide +kernel
theorem dX6_readWeighing_166 : decode cX6_readWeighing 166 = .ok (.goto 5, 3) := by decide +kernel
theorem dX6_readWeighing_169 : decode cX6_readWeighing 169 = .ok (.iload_n 3, 1) := by decide +kernel
theorem dX6_readWeighing_170 : decode cX6_readWeighing 170 = .ok (.ineg, 1) := by decide +kernel
theorem dX6_readWeighing_171 : decode cX6_readWeighing 171 = .ok (.iastore, 1) := by decide +kernel
theorem dX6_readWeighing_172 : decode cX6_readWeighing 172 = .ok (.aload_n 0, 1) := by decide +kernel
theorem dX6_readWeighing_173 : decode cX6_readWeighing 173 = .ok (.getfield 20, 3) := by decide +kernel
theorem dX6_readWeighing_176 : decode cX6_readWeighing 176 = .ok (.iconst 1, 1) := by decide +kernel
theorem dX6_readWeighing_177 : decode cX6_readWeighing 177 = .ok (.dup2, 1) := by decide +kernel
theorem dX6_readWeighing_178 : decode cX6_readWeighing 178 = .ok (.iaload, 1) := by decide +kernel
theorem dX6_readWeighing_179 : decode cX6_readWeighing 179 = .ok (.iconst 1, 1) := by decide +kernel
theorem dX6_readWeighing_180 : decode cX6_readWeighing 180 = .ok (.iadd, 1) := by decide +kernel
theorem dX6_readWeighing_181 : decode cX6_readWeighing 181 = .ok (.iastore, 1) := by decide +kernel
theorem dX6_readWeighing_182 : decode cX6_readWeighing 182 = .ok (.iconst 1, 1) := by decide +kernel
theorem dX6_readWeighing_183 : decode cX6_readWeighing 183 = .ok (.ireturn, 1) := by decide +kernel
theorem dX6_readRoom_0 : decode cX6_readRoom 0 = .ok (.aload_n 0, 1) := by decide +kernel
theorem dX6_readRoom_1 : decode cX6_readRoom 1 = .ok (.iconst 0, 1) := by decide +kernel
theorem dX6_readRoom_2 : decode cX6_readRoom 2 = .ok (.putfield 70, 3) := by decide +kernel
theorem dX6_readRoom_5 : decode cX6_readRoom 5 = .ok (.iconst 0, 1) := by decide +kernel
theorem dX6_readRoom_6 : decode cX6_readRoom 6 = .ok (.istore_n 1, 1) := by decide +kernel
theorem dX6_readRoom_7 : decode cX6_readRoom 7 = .ok (.iload_n 1, 1) := by decide +kernel
theorem dX6_readRoom_8 : decode cX6_readRoom 8 = .ok (.bipush 18, 2) := by decide +kernel
theorem dX6_readRoom_10 : decode cX6_readRoom 10 = .ok (.if_icmp .ge 16, 3) := by decide +kernel
theorem dX6_readRoom_13 : decode cX6_readRoom 13 = .ok (.aload_n 0, 1) := by decide +kernel
theorem dX6_readRoom_14 : decode cX6_readRoom 14 = .ok (.getfield 20, 3) := by decide +kernel
theorem dX6_readRoom_17 : decode cX6_readRoom 17 = .ok (.iload_n 1, 1) := by decide +kernel
theorem dX6_readRoom_18 : decode cX6_readRoom 18 = .ok (.iconst 0, 1) := by decide +kernel
theorem dX6_readRoom_19 : decode cX6_readRoom 19 = .ok (.iastore, 1) := by decide +kernel
theorem dX6_readRoom_20 : decode cX6_readRoom 20 = .ok (.iinc 1 1, 3) := by decide +kernel
theorem dX6_readRoom_23 : decode cX6_readRoom 23 = .ok (.goto (-16), 3) := by decide +kernel
theorem dX6_readRoom_26 : decode cX6_readRoom 26 = .ok (.aload_n 0, 1) := by decide +kernel
theorem dX6_readRoom_27 : decode cX6_readRoom 27 = .ok (.invokevirtual 84, 3) := by decide +kernel
theorem dX6_readRoom_30 : decode cX6_readRoom 30 = .ok (.ifCond .ne 8, 3) := by decide +kernel
theorem dX6_readRoom_33 : decode cX6_readRoom 33 = .ok (.aload_n 0, 1) := by decide +kernel
theorem dX6_readRoom_34 : decode cX6_readRoom 34 = .ok (.getfield 70, 3) := by decide +kernel
theorem dX6_readRoom_37 : decode cX6_readRoom 37 = .ok (.ireturn, 1) := by decide +kernel
theorem dX6_readRoom_38 : decode cX6_readRoom 38 = .ok (.aload_n 0, 1) := by decide +kernel
theorem dX6_readRoom_39 : decode cX6_readRoom 39 = .ok (.getfield 70, 3) := by decide +kernel
theorem dX6_readRoom_42 : decode cX6_readRoom 42 = .ok (.aload_n 0, 1) := by decide +kernel
theorem dX6_readRoom_43 : decode cX6_readRoom 43 = .ok (.getfield 67, 3) := by decide +kernel
theorem dX6_readRoom_46 : decode cX6_readRoom 46 = .ok (.if_icmp .ge 15, 3) := by decide +kernel
theorem dX6_readRoom_49 : decode cX6_readRoom 49 = .ok (.aload_n 0, 1) := by decide +kernel
theorem dX6_readRoom_50 : decode cX6_readRoom 50 = .ok (.invokevirtual 88, 3) := by decide +kernel
theorem dX6_readRoom_53 : decode cX6_readRoom 53 = .ok (.ifCond .ne (-15), 3) := by decide +kernel
theorem dX6_readRoom_56 : decode cX6_readRoom 56 = .ok (.aload_n 0, 1) := by decide +kernel
theorem dX6_readRoom_57 : decode cX6_readRoom 57 = .ok (.getfield 70, 3) := by decide +kernel
theorem dX6_readRoom_60 : decode cX6_readRoom 60 = .ok (.ireturn, 1) := by decide +kernel
theorem dX6_readRoom_61 : decode cX6_readRoom 61 = .ok (.bipush (-9), 2) := by decide +kernel
theorem dX6_readRoom_63 : decode cX6_readRoom 63 = .ok (.ireturn, 1) := by decide +kernel
theorem dX6_fault_0 : decode cX6_fault 0 = .ok (.aload_n 0, 1) := by decide +kernel
theorem dX6_fault_1 : decode cX6_fault 1 = .ok (.iconst 0, 1) := by decide +kernel
theorem dX6_fault_2 : decode cX6_fault 2 = .ok (.putfield 1, 3) := by decide +kernel
theorem dX6_fault_5 : decode cX6_fault 5 = .ok (.aload_n 0, 1) := by decide +kernel
theorem dX6_fault_6 : decode cX6_fault 6 = .ok (.invokevirtual 91, 3) := by decide +kernel
theorem dX6_fault_9 : decode cX6_fault 9 = .ok (.ireturn, 1) := by decide +kernel
theorem dX6_room_0 : decode cX6_room 0 = .ok (.aload_n 0, 1) := by decide +kernel
theorem dX6_room_1 : decode cX6_room 1 = .ok (.iconst 0, 1) := by decide +kernel
theorem dX6_room_2 : decode cX6_room 2 = .ok (.putfield 1, 3) := by decide +kernel
theorem dX6_room_5 : decode cX6_room 5 = .ok (.aload_n 0, 1) := by decide +kernel
theorem dX6_room_6 : decode cX6_room 6 = .ok (.invokevirtual 91, 3) := by decide +kernel
theorem dX6_room_9 : decode cX6_room 9 = .ok (.bipush (-9), 2) := by decide +kernel
theorem dX6_room_11 : decode cX6_room 11 = .ok (.if_icmp .eq 6, 3) := by decide +kernel
theorem dX6_room_14 : decode cX6_room 14 = .ok (.bipush (-3), 2) := by decide +kernel
theorem dX6_room_16 : decode cX6_room 16 = .ok (.ireturn, 1) := by decide +kernel
theorem dX6_room_17 : decode cX6_room 17 = .ok (.aload_n 0, 1) := by decide +kernel
theorem dX6_room_18 : decode cX6_room 18 = .ok (.aload_n 0, 1) := by decide +kernel
theorem dX6_room_19 : decode cX6_room 19 = .ok (.getfield 77, 3) := by decide +kernel
theorem dX6_room_22 : decode cX6_room 22 = .ok (.putfield 17, 3) := by decide +kernel
theorem dX6_room_25 : decode cX6_room 25 = .ok (.aload_n 0, 1) := by decide +kernel
theorem dX6_room_26 : decode cX6_room 26 = .ok (.getfield 20, 3) := by decide +kernel
theorem dX6_room_29 : decode cX6_room 29 = .ok (.aload_n 0, 1) := by decide +kernel
theorem dX6_room_30 : decode cX6_room 30 = .ok (.getfield 23, 3) := by decide +kernel
theorem dX6_room_33 : decode cX6_room 33 = .ok (.invokestatic 95, 3) := by decide +kernel
theorem dX6_room_36 : decode cX6_room 36 = .ok (.aload_n 0, 1) := by decide +kernel
theorem dX6_room_37 : decode cX6_room 37 = .ok (.iconst 0, 1) := by decide +kernel
theorem dX6_room_38 : decode cX6_room 38 = .ok (.putfield 99, 3) := by decide +kernel
theorem dX6_room_41 : decode cX6_room 41 = .ok (.aload_n 0, 1) := by decide +kernel
theorem dX6_room_42 : decode cX6_room 42 = .ok (.getfield 38, 3) := by decide +kernel
theorem dX6_room_45 : decode cX6_room 45 = .ok (.iconst 0, 1) := by decide +kernel
theorem dX6_room_46 : decode cX6_room 46 = .ok (.iconst 0, 1) := by decide +kernel
theorem dX6_room_47 : decode cX6_room 47 = .ok (.bastore, 1) := by decide +kernel
theorem dX6_room_48 : decode cX6_room 48 = .ok (.aload_n 0, 1) := by decide +kernel
theorem dX6_room_49 : decode cX6_room 49 = .ok (.getfield 38, 3) := by decide +kernel
theorem dX6_room_52 : decode cX6_room 52 = .ok (.iconst 1, 1) := by decide +kernel
theorem dX6_room_53 : decode cX6_room 53 = .ok (.iconst 0, 1) := by decide +kernel
theorem dX6_room_54 : decode cX6_room 54 = .ok (.bastore, 1) := by decide +kernel
theorem dX6_room_55 : decode cX6_room 55 = .ok (.aload_n 0, 1) := by decide +kernel
theorem dX6_room_56 : decode cX6_room 56 = .ok (.getfield 23, 3) := by decide +kernel
theorem dX6_room_59 : decode cX6_room 59 = .ok (.iconst 1, 1) := by decide +kernel
theorem dX6_room_60 : decode cX6_room 60 = .ok (.iaload, 1) := by decide +kernel
theorem dX6_room_61 : decode cX6_room 61 = .ok (.ireturn, 1) := by decide +kernel
theorem dX6_code_0 : decode cX6_code 0 = .ok (.aload_n 0, 1) := by decide +kernel
theorem dX6_code_1 : decode cX6_code 1 = .ok (.iconst 0, 1) := by decide +kernel
theorem dX6_code_2 : decode cX6_code 2 = .ok (.putfield 1, 3) := by decide +kernel
theorem dX6_code_5 : decode cX6_code 5 = .ok (.aload_n 0, 1) := by decide +kernel
theorem dX6_code_6 : decode cX6_code 6 = .ok (.iload_n 1, 1) := by decide +kernel
theorem dX6_code_7 : decode cX6_code 7 = .ok (.invokevirtual 102, 3) := by decide +kernel
theorem dX6_code_10 : decode cX6_code 10 = .ok (.ifCond .eq 7, 3) := by decide +kernel
theorem dX6_code_13 : decode cX6_code 13 = .ok (.iconst (-1), 1) := by decide +kernel
theorem dX6_code_14 : decode cX6_code 14 = .ok (.goto 11, 3) := by decide +kernel
theorem dX6_code_17 : decode cX6_code 17 = .ok (.aload_n 0, 1) := by decide +kernel
theorem dX6_code_18 : decode cX6_code 18 = .ok (.getfield 23, 3) := by decide +kernel
theorem dX6_code_21 : decode cX6_code 21 = .ok (.iconst 2, 1) := by decide +kernel
theorem dX6_code_22 : decode cX6_code 22 = .ok (.iload_n 1, 1) := by decide +kernel
theorem dX6_code_23 : decode cX6_code 23 = .ok (.iadd, 1) := by decide +kernel
theorem dX6_code_24 : decode cX6_code 24 = .ok (.iaload, 1) := by decide +kernel
theorem dX6_code_25 : decode cX6_code 25 = .ok (.ireturn, 1) := by decide +kernel
theorem dX6_reading_0 : decode cX6_reading 0 = .ok (.aload_n 0, 1) := by decide +kernel
theorem dX6_reading_1 : decode cX6_reading 1 = .ok (.iconst 0, 1) := by decide +kernel
theorem dX6_reading_2 : decode cX6_reading 2 = .ok (.putfield 1, 3) := by decide +kernel
theorem dX6_reading_5 : decode cX6_reading 5 = .ok (.aload_n 0, 1) := by decide +kernel
theorem dX6_reading_6 : decode cX6_reading 6 = .ok (.iload_n 1, 1) := by decide +kernel
theorem dX6_reading_7 : decode cX6_reading 7 = .ok (.invokevirtual 102, 3) := by decide +kernel
theorem dX6_reading_10 : decode cX6_reading 10 = .ok (.ifCond .eq 7, 3) := by decide +kernel
theorem dX6_reading_13 : decode cX6_reading 13 = .ok (.iconst (-1), 1) := by decide +kernel
theorem dX6_reading_14 : decode cX6_reading 14 = .ok (.goto 16, 3) := by decide +kernel
theorem dX6_reading_17 : decode cX6_reading 17 = .ok (.aload_n 0, 1) := by decide +kernel
theorem dX6_reading_18 : decode cX6_reading 18 = .ok (.getfield 23, 3) := by decide +kernel
theorem dX6_reading_21 : decode cX6_reading 21 = .ok (.bipush 10, 2) := by decide +kernel
theorem dX6_reading_23 : decode cX6_reading 23 = .ok (.iload_n 1, 1) := by decide +kernel
theorem dX6_reading_24 : decode cX6_reading 24 = .ok (.iadd, 1) := by decide +kernel
theorem dX6_reading_25 : decode cX6_reading 25 = .ok (.iaload, 1) := by decide +kernel
theorem dX6_reading_26 : decode cX6_reading 26 = .ok (.sipush 1000, 3) := by decide +kernel
theorem dX6_reading_29 : decode cX6_reading 29 = .ok (.iadd, 1) := by decide +kernel
theorem dX6_reading_30 : decode cX6_reading 30 = .ok (.ireturn, 1) := by decide +kernel
theorem dX6_note_0 : decode cX6_note 0 = .ok (.aload_n 0, 1) := by decide +kernel
theorem dX6_note_1 : decode cX6_note 1 = .ok (.getfield 99, 3) := by decide +kernel
theorem dX6_note_4 : decode cX6_note 4 = .ok (.bipush 14, 2) := by decide +kernel
theorem dX6_note_6 : decode cX6_note 6 = .ok (.if_icmp .ne 43, 3) := by decide +kernel
theorem dX6_note_9 : decode cX6_note 9 = .ok (.iconst 0, 1) := by decide +kernel
theorem dX6_note_10 : decode cX6_note 10 = .ok (.istore_n 1, 1) := by decide +kernel
theorem dX6_note_11 : decode cX6_note 11 = .ok (.iload_n 1, 1) := by decide +kernel
theorem dX6_note_12 : decode cX6_note 12 = .ok (.sipush 234, 3) := by decide +kernel
theorem dX6_note_15 : decode cX6_note 15 = .ok (.if_icmp .ge 24, 3) := by decide +kernel
theorem dX6_note_18 : decode cX6_note 18 = .ok (.aload_n 0, 1) := by decide +kernel
theorem dX6_note_19 : decode cX6_note 19 = .ok (.getfield 32, 3) := by decide +kernel
theorem dX6_note_22 : decode cX6_note 22 = .ok (.iload_n 1, 1) := by decide +kernel
theorem dX6_note_23 : decode cX6_note 23 = .ok (.aload_n 0, 1) := by decide +kernel
theorem dX6_note_24 : decode cX6_note 24 = .ok (.getfield 32, 3) := by decide +kernel
theorem dX6_note_27 : decode cX6_note 27 = .ok (.iload_n 1, 1) := by decide +kernel
theorem dX6_note_28 : decode cX6_note 28 = .ok (.bipush 18, 2) := by decide +kernel
theorem dX6_note_30 : decode cX6_note 30 = .ok (.iadd, 1) := by decide +kernel
theorem dX6_note_31 : decode cX6_note 31 = .ok (.iaload, 1) := by decide +kernel
theorem dX6_note_32 : decode cX6_note 32 = .ok (.iastore, 1) := by decide +kernel
theorem dX6_note_33 : decode cX6_note 33 = .ok (.iinc 1 1, 3) := by decide +kernel
theorem dX6_note_36 : decode cX6_note 36 = .ok (.goto (-25), 3) := by decide +kernel
theorem dX6_note_39 : decode cX6_note 39 = .ok (.aload_n 0, 1) := by decide +kernel
theorem dX6_note_40 : decode cX6_note 40 = .ok (.dup, 1) := by decide +kernel
theorem dX6_note_41 : decode cX6_note 41 = .ok (.getfield 99, 3) := by decide +kernel
theorem dX6_note_44 : decode cX6_note 44 = .ok (.iconst 1, 1) := by decide +kernel
theorem dX6_note_45 : decode cX6_note 45 = .ok (.isub, 1) := by decide +kernel
theorem dX6_note_46 : decode cX6_note 46 = .ok (.putfield 99, 3) := by decide +kernel
theorem dX6_note_49 : decode cX6_note 49 = .ok (.iconst 0, 1) := by decide +kernel
theorem dX6_note_50 : decode cX6_note 50 = .ok (.istore_n 1, 1) := by decide +kernel
theorem dX6_note_51 : decode cX6_note 51 = .ok (.iload_n 1, 1) := by decide +kernel
theorem dX6_note_52 : decode cX6_note 52 = .ok (.bipush 18, 2) := by decide +kernel
theorem dX6_note_54 : decode cX6_note 54 = .ok (.if_icmp .ge 29, 3) := by decide +kernel
theorem dX6_note_57 : decode cX6_note 57 = .ok (.aload_n 0, 1) := by decide +kernel
theorem dX6_note_58 : decode cX6_note 58 = .ok (.getfield 32, 3) := by decide +kernel
theorem dX6_note_61 : decode cX6_note 61 = .ok (.bipush 18, 2) := by decide +kernel
theorem dX6_note_63 : decode cX6_note 63 = .ok (.aload_n 0, 1) := by decide +kernel
theorem dX6_note_64 : decode cX6_note 64 = .ok (.getfield 99, 3) := by decide +kernel
theorem dX6_note_67 : decode cX6_note 67 = .ok (.imul, 1) := by decide +kernel
theorem dX6_note_68 : decode cX6_note 68 = .ok (.iload_n 1, 1) := by decide +kernel
theorem dX6_note_69 : decode cX6_note 69 = .ok (.iadd, 1) := by decide +kernel
theorem dX6_note_70 : decode cX6_note 70 = .ok (.aload_n 0, 1) := by decide +kernel
theorem dX6_note_71 : decode cX6_note 71 = .ok (.getfield 23, 3) := by decide +kernel
theorem dX6_note_74 : decode cX6_note 74 = .ok (.iload_n 1, 1) := by decide +kernel
theorem dX6_note_75 : decode cX6_note 75 = .ok (.iaload, 1) := by decide +kernel
theorem dX6_note_76 : decode cX6_note 76 = .ok (.iastore, 1) := by decide +kernel
theorem dX6_note_77 : decode cX6_note 77 = .ok (.iinc 1 1, 3) := by decide +kernel
theorem dX6_note_80 : decode cX6_note 80 = .ok (.goto (-29), 3) := by decide +kernel
theorem dX6_note_83 : decode cX6_note 83 = .ok (.aload_n 0, 1) := by decide +kernel
theorem dX6_note_84 : decode cX6_note 84 = .ok (.dup, 1) := by decide +kernel
theorem dX6_note_85 : decode cX6_note 85 = .ok (.getfield 99, 3) := by decide +kernel
theorem dX6_note_88 : decode cX6_note 88 = .ok (.iconst 1, 1) := by decide +kernel
theorem dX6_note_89 : decode cX6_note 89 = .ok (.iadd, 1) := by decide +kernel
theorem dX6_note_90 : decode cX6_note 90 = .ok (.putfield 99, 3) := by decide +kernel
theorem dX6_note_93 : decode cX6_note 93 = .ok (.return_, 1) := by decide +kernel
theorem dX6_isCode_0 : decode cX6_isCode 0 = .ok (.iload_n 1, 1) := by decide +kernel
theorem dX6_isCode_1 : decode cX6_isCode 1 = .ok (.i2l, 1) := by decide +kernel
theorem dX6_isCode_2 : decode cX6_isCode 2 = .ok (.lconst 0, 1) := by decide +kernel
theorem dX6_isCode_3 : decode cX6_isCode 3 = .ok (.bipush 10, 2) := by decide +kernel
theorem dX6_isCode_5 : decode cX6_isCode 5 = .ok (.aload_n 0, 1) := by decide +kernel
theorem dX6_isCode_6 : decode cX6_isCode 6 = .ok (.getfield 17, 3) := by decide +kernel
theorem dX6_isCode_9 : decode cX6_isCode 9 = .ok (.iconst 1, 1) := by decide +kernel
theorem dX6_isCode_10 : decode cX6_isCode 10 = .ok (.iadd, 1) := by decide +kernel
theorem dX6_isCode_11 : decode cX6_isCode 11 = .ok (.invokestatic 106, 3) := by decide +kernel
theorem dX6_isCode_14 : decode cX6_isCode 14 = .ok (.iconst 1, 1) := by decide +kernel
theorem dX6_isCode_15 : decode cX6_isCode 15 = .ok (.isub, 1) := by decide +kernel
theorem dX6_isCode_16 : decode cX6_isCode 16 = .ok (.i2l, 1) := by decide +kernel
theorem dX6_isCode_17 : decode cX6_isCode 17 = .ok (.invokestatic 61, 3) := by decide +kernel
theorem dX6_isCode_20 : decode cX6_isCode 20 = .ok (.istore_n 2, 1) := by decide +kernel
theorem dX6_isCode_21 : decode cX6_isCode 21 = .ok (.iconst 0, 1) := by decide +kernel
theorem dX6_isCode_22 : decode cX6_isCode 22 = .ok (.istore_n 3, 1) := by decide +kernel
theorem dX6_isCode_23 : decode cX6_isCode 23 = .ok (.iload_n 3, 1) := by decide +kernel
theorem dX6_isCode_24 : decode cX6_isCode 24 = .ok (.aload_n 0, 1) := by decide +kernel
theorem dX6_isCode_25 : decode cX6_isCode 25 = .ok (.getfield 17, 3) := by decide +kernel
theorem dX6_isCode_28 : decode cX6_isCode 28 = .ok (.if_icmp .gt 34, 3) := by decide +kernel
theorem dX6_isCode_31 : decode cX6_isCode 31 = .ok (.iload_n 2, 1) := by decide +kernel
theorem dX6_isCode_32 : decode cX6_isCode 32 = .ok (.ifCond .eq 30, 3) := by decide +kernel
theorem dX6_isCode_35 : decode cX6_isCode 35 = .ok (.iload_n 1, 1) := by decide +kernel
theorem dX6_isCode_36 : decode cX6_isCode 36 = .ok (.bipush 10, 2) := by decide +kernel
theorem dX6_isCode_38 : decode cX6_isCode 38 = .ok (.iload_n 3, 1) := by decide +kernel
theorem dX6_isCode_39 : decode cX6_isCode 39 = .ok (.invokestatic 106, 3) := by decide +kernel
theorem dX6_isCode_42 : decode cX6_isCode 42 = .ok (.idiv, 1) := by decide +kernel
theorem dX6_isCode_43 : decode cX6_isCode 43 = .ok (.bipush 10, 2) := by decide +kernel
theorem dX6_isCode_45 : decode cX6_isCode 45 = .ok (.irem, 1) := by decide +kernel
theorem dX6_isCode_46 : decode cX6_isCode 46 = .ok (.iconst 3, 1) := by decide +kernel
theorem dX6_isCode_47 : decode cX6_isCode 47 = .ok (.if_icmp .ge 7, 3) := by decide +kernel
theorem dX6_isCode_50 : decode cX6_isCode 50 = .ok (.iconst 1, 1) := by decide +kernel
theorem dX6_isCode_51 : decode cX6_isCode 51 = .ok (.goto 4, 3) := by decide +kernel
theorem dX6_isCode_54 : decode cX6_isCode 54 = .ok (.iconst 0, 1) := by decide +kernel
theorem dX6_isCode_55 : decode cX6_isCode 55 = .ok (.istore_n 2, 1) := by decide +kernel
theorem dX6_isCode_56 : decode cX6_isCode 56 = .ok (.iinc 3 1, 3) := by decide +kernel
theorem dX6_isCode_59 : decode cX6_isCode 59 = .ok (.goto (-36), 3) := by decide +kernel
theorem dX6_isCode_62 : decode cX6_isCode 62 = .ok (.iload_n 2, 1) := by decide +kernel
theorem dX6_isCode_63 : decode cX6_isCode 63 = .ok (.ireturn, 1) := by decide +kernel
theorem dX6_weigh_0 : decode cX6_weigh 0 = .ok (.aload_n 0, 1) := by decide +kernel
theorem dX6_weigh_1 : decode cX6_weigh 1 = .ok (.iconst 0, 1) := by decide +kernel
theorem dX6_weigh_2 : decode cX6_weigh 2 = .ok (.putfield 1, 3) := by decide +kernel
theorem dX6_weigh_5 : decode cX6_weigh 5 = .ok (.aload_n 0, 1) := by decide +kernel
theorem dX6_weigh_6 : decode cX6_weigh 6 = .ok (.iload_n 1, 1) := by decide +kernel
theorem dX6_weigh_7 : decode cX6_weigh 7 = .ok (.invokevirtual 109, 3) := by decide +kernel
theorem dX6_weigh_10 : decode cX6_weigh 10 = .ok (.ifCond .eq 17, 3) := by decide +kernel
theorem dX6_weigh_13 : decode cX6_weigh 13 = .ok (.iload_n 2, 1) := by decide +kernel
theorem dX6_weigh_14 : decode cX6_weigh 14 = .ok (.i2l, 1) := by decide +kernel
theorem dX6_weigh_15 : decode cX6_weigh 15 = .ok (.ldc2_w 112, 3) := by decide +kernel
theorem dX6_weigh_18 : decode cX6_weigh 18 = .ok (.ldc2_w 114, 3) := by decide +kernel
theorem dX6_weigh_21 : decode cX6_weigh 21 = .ok (.invokestatic 61, 3) := by decide +kernel
theorem dX6_weigh_24 : decode cX6_weigh 24 = .ok (.ifCond .ne 6, 3) := by decide +kernel
theorem dX6_weigh_27 : decode cX6_weigh 27 = .ok (.bipush (-2), 2) := by decide +kernel
theorem dX6_weigh_29 : decode cX6_weigh 29 = .ok (.ireturn, 1) := by decide +kernel
theorem dX6_weigh_30 : decode cX6_weigh 30 = .ok (.aload_n 0, 1) := by decide +kernel
theorem dX6_weigh_31 : decode cX6_weigh 31 = .ok (.getfield 23, 3) := by decide +kernel
theorem dX6_weigh_34 : decode cX6_weigh 34 = .ok (.iconst 1, 1) := by decide +kernel
theorem dX6_weigh_35 : decode cX6_weigh 35 = .ok (.iaload, 1) := by decide +kernel
theorem dX6_weigh_36 : decode cX6_weigh 36 = .ok (.bipush 8, 2) := by decide +kernel
theorem dX6_weigh_38 : decode cX6_weigh 38 = .ok (.if_icmp .ne 6, 3) := by decide +kernel
theorem dX6_weigh_41 : decode cX6_weigh 41 = .ok (.bipush (-4), 2) := by decide +kernel
theorem dX6_weigh_43 : decode cX6_weigh 43 = .ok (.ireturn, 1) := by decide +kernel
theorem dX6_weigh_44 : decode cX6_weigh 44 = .ok (.aload_n 0, 1) := by decide +kernel
theorem dX6_weigh_45 : decode cX6_weigh 45 = .ok (.invokevirtual 116, 3) := by decide +kernel
theorem dX6_weigh_48 : decode cX6_weigh 48 = .ok (.aload_n 0, 1) := by decide +kernel
theorem dX6_weigh_49 : decode cX6_weigh 49 = .ok (.getfield 23, 3) := by decide +kernel
theorem dX6_weigh_52 : decode cX6_weigh 52 = .ok (.iconst 2, 1) := by decide +kernel
theorem dX6_weigh_53 : decode cX6_weigh 53 = .ok (.aload_n 0, 1) := by decide +kernel
theorem dX6_weigh_54 : decode cX6_weigh 54 = .ok (.getfield 23, 3) := by decide +kernel
theorem dX6_weigh_57 : decode cX6_weigh 57 = .ok (.iconst 1, 1) := by decide +kernel
theorem dX6_weigh_58 : decode cX6_weigh 58 = .ok (.iaload, 1) := by decide +kernel
theorem dX6_weigh_59 : decode cX6_weigh 59 = .ok (.iadd, 1) := by decide +kernel
theorem dX6_weigh_60 : decode cX6_weigh 60 = .ok (.iload_n 1, 1) := by decide +kernel
theorem dX6_weigh_61 : decode cX6_weigh 61 = .ok (.iastore, 1) := by decide +kernel
theorem dX6_weigh_62 : decode cX6_weigh 62 = .ok (.aload_n 0, 1) := by decide +kernel
theorem dX6_weigh_63 : decode cX6_weigh 63 = .ok (.getfield 23, 3) := by decide +kernel
theorem dX6_weigh_66 : decode cX6_weigh 66 = .ok (.bipush 10, 2) := by decide +kernel
theorem dX6_weigh_68 : decode cX6_weigh 68 = .ok (.aload_n 0, 1) := by decide +kernel
theorem dX6_weigh_69 : decode cX6_weigh 69 = .ok (.getfield 23, 3) := by decide +kernel
theorem dX6_weigh_72 : decode cX6_weigh 72 = .ok (.iconst 1, 1) := by decide +kernel
theorem dX6_weigh_73 : decode cX6_weigh 73 = .ok (.iaload, 1) := by decide +kernel
theorem dX6_weigh_74 : decode cX6_weigh 74 = .ok (.iadd, 1) := by decide +kernel
theorem dX6_weigh_75 : decode cX6_weigh 75 = .ok (.iload_n 2, 1) := by decide +kernel
theorem dX6_weigh_76 : decode cX6_weigh 76 = .ok (.iastore, 1) := by decide +kernel
theorem dX6_weigh_77 : decode cX6_weigh 77 = .ok (.aload_n 0, 1) := by decide +kernel
theorem dX6_weigh_78 : decode cX6_weigh 78 = .ok (.getfield 23, 3) := by decide +kernel
theorem dX6_weigh_81 : decode cX6_weigh 81 = .ok (.iconst 1, 1) := by decide +kernel
theorem dX6_weigh_82 : decode cX6_weigh 82 = .ok (.dup2, 1) := by decide +kernel
theorem dX6_weigh_83 : decode cX6_weigh 83 = .ok (.iaload, 1) := by decide +kernel
theorem dX6_weigh_84 : decode cX6_weigh 84 = .ok (.iconst 1, 1) := by decide +kernel
theorem dX6_weigh_85 : decode cX6_weigh 85 = .ok (.iadd, 1) := by decide +kernel
theorem dX6_weigh_86 : decode cX6_weigh 86 = .ok (.iastore, 1) := by decide +kernel
theorem dX6_weigh_87 : decode cX6_weigh 87 = .ok (.aload_n 0, 1) := by decide +kernel
theorem dX6_weigh_88 : decode cX6_weigh 88 = .ok (.getfield 23, 3) := by decide +kernel
theorem dX6_weigh_91 : decode cX6_weigh 91 = .ok (.iconst 1, 1) := by decide +kernel
theorem dX6_weigh_92 : decode cX6_weigh 92 = .ok (.iaload, 1) := by decide +kernel
theorem dX6_weigh_93 : decode cX6_weigh 93 = .ok (.ireturn, 1) := by decide +kernel
theorem dX6_takeOn_0 : decode cX6_takeOn 0 = .ok (.aload_n 0, 1) := by decide +kernel
theorem dX6_takeOn_1 : decode cX6_takeOn 1 = .ok (.iconst 1, 1) := by decide +kernel
theorem dX6_takeOn_2 : decode cX6_takeOn 2 = .ok (.dup2, 1) := by decide +kernel
theorem dX6_takeOn_3 : decode cX6_takeOn 3 = .ok (.iaload, 1) := by decide +kernel
theorem dX6_takeOn_4 : decode cX6_takeOn 4 = .ok (.iconst 1, 1) := by decide +kernel
theorem dX6_takeOn_5 : decode cX6_takeOn 5 = .ok (.isub, 1) := by decide +kernel
theorem dX6_takeOn_6 : decode cX6_takeOn 6 = .ok (.iastore, 1) := by decide +kernel
theorem dX6_takeOn_7 : decode cX6_takeOn 7 = .ok (.iload_n 1, 1) := by decide +kernel
theorem dX6_takeOn_8 : decode cX6_takeOn 8 = .ok (.istore_n 2, 1) := by decide +kernel
theorem dX6_takeOn_9 : decode cX6_takeOn 9 = .ok (.iload_n 2, 1) := by decide +kernel
theorem dX6_takeOn_10 : decode cX6_takeOn 10 = .ok (.aload_n 0, 1) := by decide +kernel
theorem dX6_takeOn_11 : decode cX6_takeOn 11 = .ok (.iconst 1, 1) := by decide +kernel
theorem dX6_takeOn_12 : decode cX6_takeOn 12 = .ok (.iaload, 1) := by decide +kernel
theorem dX6_takeOn_13 : decode cX6_takeOn 13 = .ok (.if_icmp .ge 35, 3) := by decide +kernel
theorem dX6_takeOn_16 : decode cX6_takeOn 16 = .ok (.aload_n 0, 1) := by decide +kernel
theorem dX6_takeOn_17 : decode cX6_takeOn 17 = .ok (.iconst 2, 1) := by decide +kernel
theorem dX6_takeOn_18 : decode cX6_takeOn 18 = .ok (.iload_n 2, 1) := by decide +kernel
theorem dX6_takeOn_19 : decode cX6_takeOn 19 = .ok (.iadd, 1) := by decide +kernel
theorem dX6_takeOn_20 : decode cX6_takeOn 20 = .ok (.aload_n 0, 1) := by decide +kernel
theorem dX6_takeOn_21 : decode cX6_takeOn 21 = .ok (.iconst 2, 1) := by decide +kernel
theorem dX6_takeOn_22 : decode cX6_takeOn 22 = .ok (.iload_n 2, 1) := by decide +kernel
theorem dX6_takeOn_23 : decode cX6_takeOn 23 = .ok (.iadd, 1) := by decide +kernel
theorem dX6_takeOn_24 : decode cX6_takeOn 24 = .ok (.iconst 1, 1) := by decide +kernel
theorem dX6_takeOn_25 : decode cX6_takeOn 25 = .ok (.iadd, 1) := by decide +kernel
theorem dX6_takeOn_26 : decode cX6_takeOn 26 = .ok (.iaload, 1) := by decide +kernel
theorem dX6_takeOn_27 : decode cX6_takeOn 27 = .ok (.iastore, 1) := by decide +kernel
theorem dX6_takeOn_28 : decode cX6_takeOn 28 = .ok (.aload_n 0, 1) := by decide +kernel
theorem dX6_takeOn_29 : decode cX6_takeOn 29 = .ok (.bipush 10, 2) := by decide +kernel
theorem dX6_takeOn_31 : decode cX6_takeOn 31 = .ok (.iload_n 2, 1) := by decide +kernel
theorem dX6_takeOn_32 : decode cX6_takeOn 32 = .ok (.iadd, 1) := by decide +kernel
theorem dX6_takeOn_33 : decode cX6_takeOn 33 = .ok (.aload_n 0, 1) := by decide +kernel
theorem dX6_takeOn_34 : decode cX6_takeOn 34 = .ok (.bipush 10, 2) := by decide +kernel
theorem dX6_takeOn_36 : decode cX6_takeOn 36 = .ok (.iload_n 2, 1) := by decide +kernel
theorem dX6_takeOn_37 : decode cX6_takeOn 37 = .ok (.iadd, 1) := by decide +kernel
theorem dX6_takeOn_38 : decode cX6_takeOn 38 = .ok (.iconst 1, 1) := by decide +kernel
theorem dX6_takeOn_39 : decode cX6_takeOn 39 = .ok (.iadd, 1) := by decide +kernel
theorem dX6_takeOn_40 : decode cX6_takeOn 40 = .ok (.iaload, 1) := by decide +kernel
theorem dX6_takeOn_41 : decode cX6_takeOn 41 = .ok (.iastore, 1) := by decide +kernel
theorem dX6_takeOn_42 : decode cX6_takeOn 42 = .ok (.iinc 2 1, 3) := by decide +kernel
theorem dX6_takeOn_45 : decode cX6_takeOn 45 = .ok (.goto (-36), 3) := by decide +kernel
theorem dX6_takeOn_48 : decode cX6_takeOn 48 = .ok (.return_, 1) := by decide +kernel
theorem dX6_swapOn_0 : decode cX6_swapOn 0 = .ok (.aload_n 0, 1) := by decide +kernel
theorem dX6_swapOn_1 : decode cX6_swapOn 1 = .ok (.iconst 2, 1) := by decide +kernel
theorem dX6_swapOn_2 : decode cX6_swapOn 2 = .ok (.iload_n 1, 1) := by decide +kernel
theorem dX6_swapOn_3 : decode cX6_swapOn 3 = .ok (.iadd, 1) := by decide +kernel
theorem dX6_swapOn_4 : decode cX6_swapOn 4 = .ok (.iaload, 1) := by decide +kernel
theorem dX6_swapOn_5 : decode cX6_swapOn 5 = .ok (.istore_n 3, 1) := by decide +kernel
theorem dX6_swapOn_6 : decode cX6_swapOn 6 = .ok (.aload_n 0, 1) := by decide +kernel
theorem dX6_swapOn_7 : decode cX6_swapOn 7 = .ok (.iconst 2, 1) := by decide +kernel
theorem dX6_swapOn_8 : decode cX6_swapOn 8 = .ok (.iload_n 1, 1) := by decide +kernel
theorem dX6_swapOn_9 : decode cX6_swapOn 9 = .ok (.iadd, 1) := by decide +kernel
theorem dX6_swapOn_10 : decode cX6_swapOn 10 = .ok (.aload_n 0, 1) := by decide +kernel
theorem dX6_swapOn_11 : decode cX6_swapOn 11 = .ok (.iconst 2, 1) := by decide +kernel
theorem dX6_swapOn_12 : decode cX6_swapOn 12 = .ok (.iload_n 2, 1) := by decide +kernel
theorem dX6_swapOn_13 : decode cX6_swapOn 13 = .ok (.iadd, 1) := by decide +kernel
theorem dX6_swapOn_14 : decode cX6_swapOn 14 = .ok (.iaload, 1) := by decide +kernel
theorem dX6_swapOn_15 : decode cX6_swapOn 15 = .ok (.iastore, 1) := by decide +kernel
theorem dX6_swapOn_16 : decode cX6_swapOn 16 = .ok (.aload_n 0, 1) := by decide +kernel
theorem dX6_swapOn_17 : decode cX6_swapOn 17 = .ok (.iconst 2, 1) := by decide +kernel
theorem dX6_swapOn_18 : decode cX6_swapOn 18 = .ok (.iload_n 2, 1) := by decide +kernel
theorem dX6_swapOn_19 : decode cX6_swapOn 19 = .ok (.iadd, 1) := by decide +kernel
theorem dX6_swapOn_20 : decode cX6_swapOn 20 = .ok (.iload_n 3, 1) := by decide +kernel
theorem dX6_swapOn_21 : decode cX6_swapOn 21 = .ok (.iastore, 1) := by decide +kernel
theorem dX6_swapOn_22 : decode cX6_swapOn 22 = .ok (.aload_n 0, 1) := by decide +kernel
theorem dX6_swapOn_23 : decode cX6_swapOn 23 = .ok (.bipush 10, 2) := by decide +kernel
theorem dX6_swapOn_25 : decode cX6_swapOn 25 = .ok (.iload_n 1, 1) := by decide +kernel
theorem dX6_swapOn_26 : decode cX6_swapOn 26 = .ok (.iadd, 1) := by decide +kernel
theorem dX6_swapOn_27 : decode cX6_swapOn 27 = .ok (.iaload, 1) := by decide +kernel
theorem dX6_swapOn_28 : decode cX6_swapOn 28 = .ok (.istore 4, 2) := by decide +kernel
theorem dX6_swapOn_30 : decode cX6_swapOn 30 = .ok (.aload_n 0, 1) := by decide +kernel
theorem dX6_swapOn_31 : decode cX6_swapOn 31 = .ok (.bipush 10, 2) := by decide +kernel
theorem dX6_swapOn_33 : decode cX6_swapOn 33 = .ok (.iload_n 1, 1) := by decide +kernel
theorem dX6_swapOn_34 : decode cX6_swapOn 34 = .ok (.iadd, 1) := by decide +kernel
theorem dX6_swapOn_35 : decode cX6_swapOn 35 = .ok (.aload_n 0, 1) := by decide +kernel
theorem dX6_swapOn_36 : decode cX6_swapOn 36 = .ok (.bipush 10, 2) := by decide +kernel
theorem dX6_swapOn_38 : decode cX6_swapOn 38 = .ok (.iload_n 2, 1) := by decide +kernel
theorem dX6_swapOn_39 : decode cX6_swapOn 39 = .ok (.iadd, 1) := by decide +kernel
theorem dX6_swapOn_40 : decode cX6_swapOn 40 = .ok (.iaload, 1) := by decide +kernel
theorem dX6_swapOn_41 : decode cX6_swapOn 41 = .ok (.iastore, 1) := by decide +kernel
theorem dX6_swapOn_42 : decode cX6_swapOn 42 = .ok (.aload_n 0, 1) := by decide +kernel
theorem dX6_swapOn_43 : decode cX6_swapOn 43 = .ok (.bipush 10, 2) := by decide +kernel
theorem dX6_swapOn_45 : decode cX6_swapOn 45 = .ok (.iload_n 2, 1) := by decide +kernel
theorem dX6_swapOn_46 : decode cX6_swapOn 46 = .ok (.iadd, 1) := by decide +kernel
theorem dX6_swapOn_47 : decode cX6_swapOn 47 = .ok (.iload 4, 2) := by decide +kernel
theorem dX6_swapOn_49 : decode cX6_swapOn 49 = .ok (.iastore, 1) := by decide +kernel
theorem dX6_swapOn_50 : decode cX6_swapOn 50 = .ok (.return_, 1) := by decide +kernel
theorem dX6_take_0 : decode cX6_take 0 = .ok (.aload_n 0, 1) := by decide +kernel
theorem dX6_take_1 : decode cX6_take 1 = .ok (.iconst 0, 1) := by decide +kernel
theorem dX6_take_2 : decode cX6_take 2 = .ok (.putfield 1, 3) := by decide +kernel
theorem dX6_take_5 : decode cX6_take 5 = .ok (.aload_n 0, 1) := by decide +kernel
theorem dX6_take_6 : decode cX6_take 6 = .ok (.iload_n 1, 1) := by decide +kernel
theorem dX6_take_7 : decode cX6_take 7 = .ok (.invokevirtual 102, 3) := by decide +kernel
theorem dX6_take_10 : decode cX6_take 10 = .ok (.ifCond .eq 5, 3) := by decide +kernel
theorem dX6_take_13 : decode cX6_take 13 = .ok (.iconst (-1), 1) := by decide +kernel
theorem dX6_take_14 : decode cX6_take 14 = .ok (.ireturn, 1) := by decide +kernel
theorem dX6_take_15 : decode cX6_take 15 = .ok (.aload_n 0, 1) := by decide +kernel
theorem dX6_take_16 : decode cX6_take 16 = .ok (.invokevirtual 116, 3) := by decide +kernel
theorem dX6_take_19 : decode cX6_take 19 = .ok (.aload_n 0, 1) := by decide +kernel
theorem dX6_take_20 : decode cX6_take 20 = .ok (.getfield 23, 3) := by decide +kernel
theorem dX6_take_23 : decode cX6_take 23 = .ok (.iload_n 1, 1) := by decide +kernel
theorem dX6_take_24 : decode cX6_take 24 = .ok (.invokestatic 119, 3) := by decide +kernel
theorem dX6_take_27 : decode cX6_take 27 = .ok (.aload_n 0, 1) := by decide +kernel
theorem dX6_take_28 : decode cX6_take 28 = .ok (.getfield 23, 3) := by decide +kernel
theorem dX6_take_31 : decode cX6_take 31 = .ok (.iconst 1, 1) := by decide +kernel
theorem dX6_take_32 : decode cX6_take 32 = .ok (.iaload, 1) := by decide +kernel
theorem dX6_take_33 : decode cX6_take 33 = .ok (.ireturn, 1) := by decide +kernel
theorem dX6_swap_0 : decode cX6_swap 0 = .ok (.aload_n 0, 1) := by decide +kernel
theorem dX6_swap_1 : decode cX6_swap 1 = .ok (.iconst 0, 1) := by decide +kernel
theorem dX6_swap_2 : decode cX6_swap 2 = .ok (.putfield 1, 3) := by decide +kernel
theorem dX6_swap_5 : decode cX6_swap 5 = .ok (.aload_n 0, 1) := by decide +kernel
theorem dX6_swap_6 : decode cX6_swap 6 = .ok (.iload_n 1, 1) := by decide +kernel
theorem dX6_swap_7 : decode cX6_swap 7 = .ok (.invokevirtual 102, 3) := by decide +kernel
theorem dX6_swap_10 : decode cX6_swap 10 = .ok (.ifCond .ne 11, 3) := by decide +kernel
theorem dX6_swap_13 : decode cX6_swap 13 = .ok (.aload_n 0, 1) := by decide +kernel
theorem dX6_swap_14 : decode cX6_swap 14 = .ok (.iload_n 2, 1) := by decide +kernel
theorem dX6_swap_15 : decode cX6_swap 15 = .ok (.invokevirtual 102, 3) := by decide +kernel
theorem dX6_swap_18 : decode cX6_swap 18 = .ok (.ifCond .eq 5, 3) := by decide +kernel
theorem dX6_swap_21 : decode cX6_swap 21 = .ok (.iconst (-1), 1) := by decide +kernel
theorem dX6_swap_22 : decode cX6_swap 22 = .ok (.ireturn, 1) := by decide +kernel
theorem dX6_swap_23 : decode cX6_swap 23 = .ok (.iload_n 1, 1) := by decide +kernel
theorem dX6_swap_24 : decode cX6_swap 24 = .ok (.iload_n 2, 1) := by decide +kernel
theorem dX6_swap_25 : decode cX6_swap 25 = .ok (.if_icmp .ne 6, 3) := by decide +kernel
theorem dX6_swap_28 : decode cX6_swap 28 = .ok (.bipush (-3), 2) := by decide +kernel
theorem dX6_swap_30 : decode cX6_swap 30 = .ok (.ireturn, 1) := by decide +kernel
theorem dX6_swap_31 : decode cX6_swap 31 = .ok (.aload_n 0, 1) := by decide +kernel
theorem dX6_swap_32 : decode cX6_swap 32 = .ok (.invokevirtual 116, 3) := by decide +kernel
theorem dX6_swap_35 : decode cX6_swap 35 = .ok (.aload_n 0, 1) := by decide +kernel
theorem dX6_swap_36 : decode cX6_swap 36 = .ok (.getfield 23, 3) := by decide +kernel
theorem dX6_swap_39 : decode cX6_swap 39 = .ok (.iload_n 1, 1) := by decide +kernel
theorem dX6_swap_40 : decode cX6_swap 40 = .ok (.iload_n 2, 1) := by decide +kernel
theorem dX6_swap_41 : decode cX6_swap 41 = .ok (.invokestatic 123, 3) := by decide +kernel
theorem dX6_swap_44 : decode cX6_swap 44 = .ok (.aload_n 0, 1) := by decide +kernel
theorem dX6_swap_45 : decode cX6_swap 45 = .ok (.getfield 23, 3) := by decide +kernel
theorem dX6_swap_48 : decode cX6_swap 48 = .ok (.iconst 2, 1) := by decide +kernel
theorem dX6_swap_49 : decode cX6_swap 49 = .ok (.iload_n 1, 1) := by decide +kernel
theorem dX6_swap_50 : decode cX6_swap 50 = .ok (.iadd, 1) := by decide +kernel
theorem dX6_swap_51 : decode cX6_swap 51 = .ok (.iaload, 1) := by decide +kernel
theorem dX6_swap_52 : decode cX6_swap 52 = .ok (.ireturn, 1) := by decide +kernel
theorem dX6_read_0 : decode cX6_read 0 = .ok (.aload_n 0, 1) := by decide +kernel
theorem dX6_read_1 : decode cX6_read 1 = .ok (.iconst 0, 1) := by decide +kernel
theorem dX6_read_2 : decode cX6_read 2 = .ok (.putfield 1, 3) := by decide +kernel
theorem dX6_read_5 : decode cX6_read 5 = .ok (.aload_n 0, 1) := by decide +kernel
theorem dX6_read_6 : decode cX6_read 6 = .ok (.iload_n 1, 1) := by decide +kernel
theorem dX6_read_7 : decode cX6_read 7 = .ok (.invokevirtual 102, 3) := by decide +kernel
theorem dX6_read_10 : decode cX6_read 10 = .ok (.ifCond .eq 5, 3) := by decide +kernel
theorem dX6_read_13 : decode cX6_read 13 = .ok (.iconst (-1), 1) := by decide +kernel
theorem dX6_read_14 : decode cX6_read 14 = .ok (.ireturn, 1) := by decide +kernel
theorem dX6_read_15 : decode cX6_read 15 = .ok (.iload_n 2, 1) := by decide +kernel
theorem dX6_read_16 : decode cX6_read 16 = .ok (.i2l, 1) := by decide +kernel
theorem dX6_read_17 : decode cX6_read 17 = .ok (.ldc2_w 112, 3) := by decide +kernel
theorem dX6_read_20 : decode cX6_read 20 = .ok (.ldc2_w 114, 3) := by decide +kernel
theorem dX6_read_23 : decode cX6_read 23 = .ok (.invokestatic 61, 3) := by decide +kernel
theorem dX6_read_26 : decode cX6_read 26 = .ok (.ifCond .ne 6, 3) := by decide +kernel
theorem dX6_read_29 : decode cX6_read 29 = .ok (.bipush (-2), 2) := by decide +kernel
theorem dX6_read_31 : decode cX6_read 31 = .ok (.ireturn, 1) := by decide +kernel
theorem dX6_read_32 : decode cX6_read 32 = .ok (.aload_n 0, 1) := by decide +kernel
theorem dX6_read_33 : decode cX6_read 33 = .ok (.invokevirtual 116, 3) := by decide +kernel
theorem dX6_read_36 : decode cX6_read 36 = .ok (.aload_n 0, 1) := by decide +kernel
theorem dX6_read_37 : decode cX6_read 37 = .ok (.getfield 23, 3) := by decide +kernel
theorem dX6_read_40 : decode cX6_read 40 = .ok (.bipush 10, 2) := by decide +kernel
theorem dX6_read_42 : decode cX6_read 42 = .ok (.iload_n 1, 1) := by decide +kernel
theorem dX6_read_43 : decode cX6_read 43 = .ok (.iadd, 1) := by decide +kernel
theorem dX6_read_44 : decode cX6_read 44 = .ok (.iaload, 1) := by decide +kernel
theorem dX6_read_45 : decode cX6_read 45 = .ok (.istore_n 3, 1) := by decide +kernel
theorem dX6_read_46 : decode cX6_read 46 = .ok (.aload_n 0, 1) := by decide +kernel
theorem dX6_read_47 : decode cX6_read 47 = .ok (.getfield 23, 3) := by decide +kernel
theorem dX6_read_50 : decode cX6_read 50 = .ok (.bipush 10, 2) := by decide +kernel
theorem dX6_read_52 : decode cX6_read 52 = .ok (.iload_n 1, 1) := by decide +kernel
theorem dX6_read_53 : decode cX6_read 53 = .ok (.iadd, 1) := by decide +kernel
theorem dX6_read_54 : decode cX6_read 54 = .ok (.iload_n 2, 1) := by decide +kernel
theorem dX6_read_55 : decode cX6_read 55 = .ok (.iastore, 1) := by decide +kernel
theorem dX6_read_56 : decode cX6_read 56 = .ok (.iload_n 3, 1) := by decide +kernel
theorem dX6_read_57 : decode cX6_read 57 = .ok (.sipush 1000, 3) := by decide +kernel
theorem dX6_read_60 : decode cX6_read 60 = .ok (.iadd, 1) := by decide +kernel
theorem dX6_read_61 : decode cX6_read 61 = .ok (.ireturn, 1) := by decide +kernel
theorem dX6_master_0 : decode cX6_master 0 = .ok (.aload_n 0, 1) := by decide +kernel
theorem dX6_master_1 : decode cX6_master 1 = .ok (.iconst 0, 1) := by decide +kernel
theorem dX6_master_2 : decode cX6_master 2 = .ok (.putfield 1, 3) := by decide +kernel
theorem dX6_master_5 : decode cX6_master 5 = .ok (.iload_n 1, 1) := by decide +kernel
theorem dX6_master_6 : decode cX6_master 6 = .ok (.i2l, 1) := by decide +kernel
theorem dX6_master_7 : decode cX6_master 7 = .ok (.lconst 0, 1) := by decide +kernel
theorem dX6_master_8 : decode cX6_master 8 = .ok (.ldc2_w 127, 3) := by decide +kernel
theorem dX6_master_11 : decode cX6_master 11 = .ok (.invokestatic 61, 3) := by decide +kernel
theorem dX6_master_14 : decode cX6_master 14 = .ok (.ifCond .ne 6, 3) := by decide +kernel
theorem dX6_master_17 : decode cX6_master 17 = .ok (.bipush (-2), 2) := by decide +kernel
theorem dX6_master_19 : decode cX6_master 19 = .ok (.ireturn, 1) := by decide +kernel
theorem dX6_master_20 : decode cX6_master 20 = .ok (.aload_n 0, 1) := by decide +kernel
theorem dX6_master_21 : decode cX6_master 21 = .ok (.invokevirtual 116, 3) := by decide +kernel
theorem dX6_master_24 : decode cX6_master 24 = .ok (.aload_n 0, 1) := by decide +kernel
theorem dX6_master_25 : decode cX6_master 25 = .ok (.getfield 23, 3) := by decide +kernel
theorem dX6_master_28 : decode cX6_master 28 = .ok (.iconst 0, 1) := by decide +kernel
theorem dX6_master_29 : decode cX6_master 29 = .ok (.iaload, 1) := by decide +kernel
theorem dX6_master_30 : decode cX6_master 30 = .ok (.istore_n 2, 1) := by decide +kernel
theorem dX6_master_31 : decode cX6_master 31 = .ok (.aload_n 0, 1) := by decide +kernel
theorem dX6_master_32 : decode cX6_master 32 = .ok (.getfield 23, 3) := by decide +kernel
theorem dX6_master_35 : decode cX6_master 35 = .ok (.iconst 0, 1) := by decide +kernel
theorem dX6_master_36 : decode cX6_master 36 = .ok (.iload_n 1, 1) := by decide +kernel
theorem dX6_master_37 : decode cX6_master 37 = .ok (.iastore, 1) := by decide +kernel
theorem dX6_master_38 : decode cX6_master 38 = .ok (.iload_n 2, 1) := by decide +kernel
theorem dX6_master_39 : decode cX6_master 39 = .ok (.ireturn, 1) := by decide +kernel
theorem dX6_undo_0 : decode cX6_undo 0 = .ok (.aload_n 0, 1) := by decide +kernel
theorem dX6_undo_1 : decode cX6_undo 1 = .ok (.iconst 0, 1) := by decide +kernel
theorem dX6_undo_2 : decode cX6_undo 2 = .ok (.putfield 1, 3) := by decide +kernel
theorem dX6_undo_5 : decode cX6_undo 5 = .ok (.aload_n 0, 1) := by decide +kernel
theorem dX6_undo_6 : decode cX6_undo 6 = .ok (.getfield 99, 3) := by decide +kernel
theorem dX6_undo_9 : decode cX6_undo 9 = .ok (.ifCond .ne 6, 3) := by decide +kernel
theorem dX6_undo_12 : decode cX6_undo 12 = .ok (.bipush (-3), 2) := by decide +kernel
theorem dX6_undo_14 : decode cX6_undo 14 = .ok (.ireturn, 1) := by decide +kernel
theorem dX6_undo_15 : decode cX6_undo 15 = .ok (.aload_n 0, 1) := by decide +kernel
theorem dX6_undo_16 : decode cX6_undo 16 = .ok (.dup, 1) := by decide +kernel
theorem dX6_undo_17 : decode cX6_undo 17 = .ok (.getfield 99, 3) := by decide +kernel
theorem dX6_undo_20 : decode cX6_undo 20 = .ok (.iconst 1, 1) := by decide +kernel
theorem dX6_undo_21 : decode cX6_undo 21 = .ok (.isub, 1) := by decide +kernel
theorem dX6_undo_22 : decode cX6_undo 22 = .ok (.putfield 99, 3) := by decide +kernel
theorem dX6_undo_25 : decode cX6_undo 25 = .ok (.iconst 0, 1) := by decide +kernel
theorem dX6_undo_26 : decode cX6_undo 26 = .ok (.istore_n 1, 1) := by decide +kernel
theorem dX6_undo_27 : decode cX6_undo 27 = .ok (.iload_n 1, 1) := by decide +kernel
theorem dX6_undo_28 : decode cX6_undo 28 = .ok (.bipush 18, 2) := by decide +kernel
theorem dX6_undo_30 : decode cX6_undo 30 = .ok (.if_icmp .ge 29, 3) := by decide +kernel
theorem dX6_undo_33 : decode cX6_undo 33 = .ok (.aload_n 0, 1) := by decide +kernel
theorem dX6_undo_34 : decode cX6_undo 34 = .ok (.getfield 23, 3) := by decide +kernel
theorem dX6_undo_37 : decode cX6_undo 37 = .ok (.iload_n 1, 1) := by decide +kernel
theorem dX6_undo_38 : decode cX6_undo 38 = .ok (.aload_n 0, 1) := by decide +kernel
theorem dX6_undo_39 : decode cX6_undo 39 = .ok (.getfield 32, 3) := by decide +kernel
theorem dX6_undo_42 : decode cX6_undo 42 = .ok (.bipush 18, 2) := by decide +kernel
theorem dX6_undo_44 : decode cX6_undo 44 = .ok (.aload_n 0, 1) := by decide +kernel
theorem dX6_undo_45 : decode cX6_undo 45 = .ok (.getfield 99, 3) := by decide +kernel
theorem dX6_undo_48 : decode cX6_undo 48 = .ok (.imul, 1) := by decide +kernel
theorem dX6_undo_49 : decode cX6_undo 49 = .ok (.iload_n 1, 1) := by decide +kernel
theorem dX6_undo_50 : decode cX6_undo 50 = .ok (.iadd, 1) := by decide +kernel
theorem dX6_undo_51 : decode cX6_undo 51 = .ok (.iaload, 1) := by decide +kernel
theorem dX6_undo_52 : decode cX6_undo 52 = .ok (.iastore, 1) := by decide +kernel
theorem dX6_undo_53 : decode cX6_undo 53 = .ok (.iinc 1 1, 3) := by decide +kernel
theorem dX6_undo_56 : decode cX6_undo 56 = .ok (.goto (-29), 3) := by decide +kernel
theorem dX6_undo_59 : decode cX6_undo 59 = .ok (.aload_n 0, 1) := by decide +kernel
theorem dX6_undo_60 : decode cX6_undo 60 = .ok (.getfield 99, 3) := by decide +kernel
theorem dX6_undo_63 : decode cX6_undo 63 = .ok (.ireturn, 1) := by decide +kernel
theorem dX6_panOf_0 : decode cX6_panOf 0 = .ok (.iload_n 1, 1) := by decide +kernel
theorem dX6_panOf_1 : decode cX6_panOf 1 = .ok (.bipush 10, 2) := by decide +kernel
theorem dX6_panOf_3 : decode cX6_panOf 3 = .ok (.aload_n 0, 1) := by decide +kernel
theorem dX6_panOf_4 : decode cX6_panOf 4 = .ok (.getfield 17, 3) := by decide +kernel
theorem dX6_panOf_7 : decode cX6_panOf 7 = .ok (.iload_n 2, 1) := by decide +kernel
theorem dX6_panOf_8 : decode cX6_panOf 8 = .ok (.isub, 1) := by decide +kernel
theorem dX6_panOf_9 : decode cX6_panOf 9 = .ok (.invokestatic 106, 3) := by decide +kernel
theorem dX6_panOf_12 : decode cX6_panOf 12 = .ok (.idiv, 1) := by decide +kernel
theorem dX6_panOf_13 : decode cX6_panOf 13 = .ok (.bipush 10, 2) := by decide +kernel
theorem dX6_panOf_15 : decode cX6_panOf 15 = .ok (.irem, 1) := by decide +kernel
theorem dX6_panOf_16 : decode cX6_panOf 16 = .ok (.istore_n 3, 1) := by decide +kernel
theorem dX6_panOf_17 : decode cX6_panOf 17 = .ok (.iload_n 3, 1) := by decide +kernel
theorem dX6_panOf_18 : decode cX6_panOf 18 = .ok (.iconst 1, 1) := by decide +kernel
theorem dX6_panOf_19 : decode cX6_panOf 19 = .ok (.if_icmp .ne 7, 3) := by decide +kernel
theorem dX6_panOf_22 : decode cX6_panOf 22 = .ok (.iconst 1, 1) := by decide +kernel
theorem dX6_panOf_23 : decode cX6_panOf 23 = .ok (.goto 13, 3) := by decide +kernel
theorem dX6_panOf_26 : decode cX6_panOf 26 = .ok (.iload_n 3, 1) := by decide +kernel
theorem dX6_panOf_27 : decode cX6_panOf 27 = .ok (.iconst 2, 1) := by decide +kernel
theorem dX6_panOf_28 : decode cX6_panOf 28 = .ok (.if_icmp .ne 7, 3) := by decide +kernel
theorem dX6_panOf_31 : decode cX6_panOf 31 = .ok (.iconst (-1), 1) := by decide +kernel
theorem dX6_panOf_32 : decode cX6_panOf 32 = .ok (.goto 4, 3) := by decide +kernel
theorem dX6_panOf_35 : decode cX6_panOf 35 = .ok (.iconst 0, 1) := by decide +kernel
theorem dX6_panOf_36 : decode cX6_panOf 36 = .ok (.ireturn, 1) := by decide +kernel
theorem dX6_layColumns_0 : decode cX6_layColumns 0 = .ok (.iconst 0, 1) := by decide +kernel
theorem dX6_layColumns_1 : decode cX6_layColumns 1 = .ok (.istore 4, 2) := by decide +kernel
theorem dX6_layColumns_3 : decode cX6_layColumns 3 = .ok (.iload 4, 2) := by decide +kernel
theorem dX6_layColumns_5 : decode cX6_layColumns 5 = .ok (.aload_n 0, 1) := by decide +kernel
theorem dX6_layColumns_6 : decode cX6_layColumns 6 = .ok (.getfield 17, 3) := by decide +kernel
theorem dX6_layColumns_9 : decode cX6_layColumns 9 = .ok (.if_icmp .ge 29, 3) := by decide +kernel
theorem dX6_layColumns_12 : decode cX6_layColumns 12 = .ok (.aload_n 0, 1) := by decide +kernel
theorem dX6_layColumns_13 : decode cX6_layColumns 13 = .ok (.getfield 55, 3) := by decide +kernel
theorem dX6_layColumns_16 : decode cX6_layColumns 16 = .ok (.iload 4, 2) := by decide +kernel
theorem dX6_layColumns_18 : decode cX6_layColumns 18 = .ok (.aload_n 0, 1) := by decide +kernel
theorem dX6_layColumns_19 : decode cX6_layColumns 19 = .ok (.aload_n 1, 1) := by decide +kernel
theorem dX6_layColumns_20 : decode cX6_layColumns 20 = .ok (.iconst 2, 1) := by decide +kernel
theorem dX6_layColumns_21 : decode cX6_layColumns 21 = .ok (.iload_n 2, 1) := by decide +kernel
theorem dX6_layColumns_22 : decode cX6_layColumns 22 = .ok (.iadd, 1) := by decide +kernel
theorem dX6_layColumns_23 : decode cX6_layColumns 23 = .ok (.iaload, 1) := by decide +kernel
theorem dX6_layColumns_24 : decode cX6_layColumns 24 = .ok (.iload 4, 2) := by decide +kernel
theorem dX6_layColumns_26 : decode cX6_layColumns 26 = .ok (.iconst 1, 1) := by decide +kernel
theorem dX6_layColumns_27 : decode cX6_layColumns 27 = .ok (.iadd, 1) := by decide +kernel
theorem dX6_layColumns_28 : decode cX6_layColumns 28 = .ok (.invokevirtual 129, 3) := by decide +kernel
theorem dX6_layColumns_31 : decode cX6_layColumns 31 = .ok (.iastore, 1) := by decide +kernel
theorem dX6_layColumns_32 : decode cX6_layColumns 32 = .ok (.iinc 4 1, 3) := by decide +kernel
theorem dX6_layColumns_35 : decode cX6_layColumns 35 = .ok (.goto (-32), 3) := by decide +kernel
theorem dX6_layColumns_38 : decode cX6_layColumns 38 = .ok (.iload_n 3, 1) := by decide +kernel
theorem dX6_layColumns_39 : decode cX6_layColumns 39 = .ok (.ifCond .eq 13, 3) := by decide +kernel
theorem dX6_layColumns_42 : decode cX6_layColumns 42 = .ok (.aload_n 0, 1) := by decide +kernel
theorem dX6_layColumns_43 : decode cX6_layColumns 43 = .ok (.getfield 55, 3) := by decide +kernel
theorem dX6_layColumns_46 : decode cX6_layColumns 46 = .ok (.aload_n 0, 1) := by decide +kernel
theorem dX6_layColumns_47 : decode cX6_layColumns 47 = .ok (.getfield 17, 3) := by decide +kernel
theorem dX6_layColumns_50 : decode cX6_layColumns 50 = .ok (.iload_n 2, 1) := by decide +kernel
theorem dX6_layColumns_51 : decode cX6_layColumns 51 = .ok (.iastore, 1) := by decide +kernel
theorem dX6_layColumns_52 : decode cX6_layColumns 52 = .ok (.return_, 1) := by decide +kernel
theorem dX6_pureOf_0 : decode cX6_pureOf 0 = .ok (.aload_n 0, 1) := by decide +kernel
theorem dX6_pureOf_1 : decode cX6_pureOf 1 = .ok (.bipush 10, 2) := by decide +kernel
theorem dX6_pureOf_3 : decode cX6_pureOf 3 = .ok (.iload_n 1, 1) := by decide +kernel
theorem dX6_pureOf_4 : decode cX6_pureOf 4 = .ok (.iadd, 1) := by decide +kernel
theorem dX6_pureOf_5 : decode cX6_pureOf 5 = .ok (.iaload, 1) := by decide +kernel
theorem dX6_pureOf_6 : decode cX6_pureOf 6 = .ok (.iload_n 2, 1) := by decide +kernel
theorem dX6_pureOf_7 : decode cX6_pureOf 7 = .ok (.aload_n 0, 1) := by decide +kernel
theorem dX6_pureOf_8 : decode cX6_pureOf 8 = .ok (.iconst 0, 1) := by decide +kernel
theorem dX6_pureOf_9 : decode cX6_pureOf 9 = .ok (.iaload, 1) := by decide +kernel
theorem dX6_pureOf_10 : decode cX6_pureOf 10 = .ok (.imul, 1) := by decide +kernel
theorem dX6_pureOf_11 : decode cX6_pureOf 11 = .ok (.isub, 1) := by decide +kernel
theorem dX6_pureOf_12 : decode cX6_pureOf 12 = .ok (.ireturn, 1) := by decide +kernel
theorem dX6_layGram_0 : decode cX6_layGram 0 = .ok (.aload_n 0, 1) := by decide +kernel
theorem dX6_layGram_1 : decode cX6_layGram 1 = .ok (.iload_n 3, 1) := by decide +kernel
theorem dX6_layGram_2 : decode cX6_layGram 2 = .ok (.ifCond .eq 12, 3) := by decide +kernel
theorem dX6_layGram_5 : decode cX6_layGram 5 = .ok (.aload_n 0, 1) := by decide +kernel
theorem dX6_layGram_6 : decode cX6_layGram 6 = .ok (.getfield 17, 3) := by decide +kernel
theorem dX6_layGram_9 : decode cX6_layGram 9 = .ok (.iconst 1, 1) := by decide +kernel
theorem dX6_layGram_10 : decode cX6_layGram 10 = .ok (.iadd, 1) := by decide +kernel
theorem dX6_layGram_11 : decode cX6_layGram 11 = .ok (.goto 7, 3) := by decide +kernel
theorem dX6_layGram_14 : decode cX6_layGram 14 = .ok (.aload_n 0, 1) := by decide +kernel
theorem dX6_layGram_15 : decode cX6_layGram 15 = .ok (.getfield 17, 3) := by decide +kernel
theorem dX6_layGram_18 : decode cX6_layGram 18 = .ok (.putfield 58, 3) := by decide +kernel
theorem dX6_layGram_21 : decode cX6_layGram 21 = .ok (.aload_n 0, 1) := by decide +kernel
theorem dX6_layGram_22 : decode cX6_layGram 22 = .ok (.lconst 0, 1) := by decide +kernel
theorem dX6_layGram_23 : decode cX6_layGram 23 = .ok (.putfield 132, 3) := by decide +kernel
theorem dX6_layGram_26 : decode cX6_layGram 26 = .ok (.iconst 0, 1) := by decide +kernel
theorem dX6_layGram_27 : decode cX6_layGram 27 = .ok (.istore 4, 2) := by decide +kernel
theorem dX6_layGram_29 : decode cX6_layGram 29 = .ok (.iload 4, 2) := by decide +kernel
theorem dX6_layGram_31 : decode cX6_layGram 31 = .ok (.bipush 25, 2) := by decide +kernel
theorem dX6_layGram_33 : decode cX6_layGram 33 = .ok (.if_icmp .ge 17, 3) := by decide +kernel
theorem dX6_layGram_36 : decode cX6_layGram 36 = .ok (.aload_n 0, 1) := by decide +kernel
theorem dX6_layGram_37 : decode cX6_layGram 37 = .ok (.getfield 42, 3) := by decide +kernel
theorem dX6_layGram_40 : decode cX6_layGram 40 = .ok (.iload 4, 2) := by decide +kernel
theorem dX6_layGram_42 : decode cX6_layGram 42 = .ok (.lconst 0, 1) := by decide +kernel
theorem dX6_layGram_43 : decode cX6_layGram 43 = .ok (.lastore, 1) := by decide +kernel
theorem dX6_layGram_44 : decode cX6_layGram 44 = .ok (.iinc 4 1, 3) := by decide +kernel
theorem dX6_layGram_47 : decode cX6_layGram 47 = .ok (.goto (-18), 3) := by decide +kernel
theorem dX6_layGram_50 : decode cX6_layGram 50 = .ok (.iconst 0, 1) := by decide +kernel
theorem dX6_layGram_51 : decode cX6_layGram 51 = .ok (.istore 4, 2) := by decide +kernel
theorem dX6_layGram_53 : decode cX6_layGram 53 = .ok (.iload 4, 2) := by decide +kernel
theorem dX6_layGram_55 : decode cX6_layGram 55 = .ok (.iconst 5, 1) := by decide +kernel
theorem dX6_layGram_56 : decode cX6_layGram 56 = .ok (.if_icmp .ge 17, 3) := by decide +kernel
theorem dX6_layGram_59 : decode cX6_layGram 59 = .ok (.aload_n 0, 1) := by decide +kernel
theorem dX6_layGram_60 : decode cX6_layGram 60 = .ok (.getfield 46, 3) := by decide +kernel
theorem dX6_layGram_63 : decode cX6_layGram 63 = .ok (.iload 4, 2) := by decide +kernel
theorem dX6_layGram_65 : decode cX6_layGram 65 = .ok (.lconst 0, 1) := by decide +kernel
theorem dX6_layGram_66 : decode cX6_layGram 66 = .ok (.lastore, 1) := by decide +kernel
theorem dX6_layGram_67 : decode cX6_layGram 67 = .ok (.iinc 4 1, 3) := by decide +kernel
theorem dX6_layGram_70 : decode cX6_layGram 70 = .ok (.goto (-17), 3) := by decide +kernel
theorem dX6_layGram_73 : decode cX6_layGram 73 = .ok (.iconst 0, 1) := by decide +kernel
theorem dX6_layGram_74 : decode cX6_layGram 74 = .ok (.istore 4, 2) := by decide +kernel
theorem dX6_layGram_76 : decode cX6_layGram 76 = .ok (.iload 4, 2) := by decide +kernel
theorem dX6_layGram_78 : decode cX6_layGram 78 = .ok (.aload_n 1, 1) := by decide +kernel
theorem dX6_layGram_79 : decode cX6_layGram 79 = .ok (.iconst 1, 1) := by decide +kernel
theorem dX6_layGram_80 : decode cX6_layGram 80 = .ok (.iaload, 1) := by decide +kernel
theorem dX6_layGram_81 : decode cX6_layGram 81 = .ok (.if_icmp .ge 148, 3) := by decide +kernel
theorem dX6_layGram_84 : decode cX6_layGram 84 = .ok (.iload_n 2, 1) := by decide +kernel
theorem dX6_layGram_85 : decode cX6_layGram 85 = .ok (.iload 4, 2) := by decide +kernel
theorem dX6_layGram_87 : decode cX6_layGram 87 = .ok (.invokestatic 136, 3) := by decide +kernel
theorem dX6_layGram_90 : decode cX6_layGram 90 = .ok (.ifCond .eq 133, 3) := by decide +kernel
theorem dX6_layGram_93 : decode cX6_layGram 93 = .ok (.aload_n 0, 1) := by decide +kernel
theorem dX6_layGram_94 : decode cX6_layGram 94 = .ok (.aload_n 1, 1) := by decide +kernel
theorem dX6_layGram_95 : decode cX6_layGram 95 = .ok (.iload 4, 2) := by decide +kernel
theorem dX6_layGram_97 : decode cX6_layGram 97 = .ok (.iload_n 3, 1) := by decide +kernel
theorem dX6_layGram_98 : decode cX6_layGram 98 = .ok (.invokevirtual 140, 3) := by decide +kernel
theorem dX6_layGram_101 : decode cX6_layGram 101 = .ok (.aload_n 1, 1) := by decide +kernel
theorem dX6_layGram_102 : decode cX6_layGram 102 = .ok (.iload 4, 2) := by decide +kernel
theorem dX6_layGram_104 : decode cX6_layGram 104 = .ok (.aload_n 0, 1) := by decide +kernel
theorem dX6_layGram_105 : decode cX6_layGram 105 = .ok (.aload_n 1, 1) := by decide +kernel
theorem dX6_layGram_106 : decode cX6_layGram 106 = .ok (.iconst 2, 1) := by decide +kernel
theorem dX6_layGram_107 : decode cX6_layGram 107 = .ok (.iload 4, 2) := by decide +kernel
theorem dX6_layGram_109 : decode cX6_layGram 109 = .ok (.iadd, 1) := by decide +kernel
theorem dX6_layGram_110 : decode cX6_layGram 110 = .ok (.iaload, 1) := by decide +kernel
theorem dX6_layGram_111 : decode cX6_layGram 111 = .ok (.iconst 0, 1) := by decide +kernel
theorem dX6_layGram_112 : decode cX6_layGram 112 = .ok (.invokevirtual 129, 3) := by decide +kernel
theorem dX6_layGram_115 : decode cX6_layGram 115 = .ok (.invokestatic 144, 3) := by decide +kernel
theorem dX6_layGram_118 : decode cX6_layGram 118 = .ok (.i2l, 1) := by decide +kernel
theorem dX6_layGram_119 : decode cX6_layGram 119 = .ok (.lstore 5, 2) := by decide +kernel
theorem dX6_layGram_121 : decode cX6_layGram 121 = .ok (.aload_n 0, 1) := by decide +kernel
theorem dX6_layGram_122 : decode cX6_layGram 122 = .ok (.dup, 1) := by decide +kernel
theorem dX6_layGram_123 : decode cX6_layGram 123 = .ok (.getfield 132, 3) := by decide +kernel
theorem dX6_layGram_126 : decode cX6_layGram 126 = .ok (.lload 5, 2) := by decide +kernel
theorem dX6_layGram_128 : decode cX6_layGram 128 = .ok (.lload 5, 2) := by decide +kernel
theorem dX6_layGram_130 : decode cX6_layGram 130 = .ok (.lmul, 1) := by decide +kernel
theorem dX6_layGram_131 : decode cX6_layGram 131 = .ok (.ladd, 1) := by decide +kernel
theorem dX6_layGram_132 : decode cX6_layGram 132 = .ok (.putfield 132, 3) := by decide +kernel
theorem dX6_layGram_135 : decode cX6_layGram 135 = .ok (.iconst 0, 1) := by decide +kernel
theorem dX6_layGram_136 : decode cX6_layGram 136 = .ok (.istore 7, 2) := by decide +kernel
theorem dX6_layGram_138 : decode cX6_layGram 138 = .ok (.iload 7, 2) := by decide +kernel
theorem dX6_layGram_140 : decode cX6_layGram 140 = .ok (.aload_n 0, 1) := by decide +kernel
theorem dX6_layGram_141 : decode cX6_layGram 141 = .ok (.getfield 58, 3) := by decide +kernel
theorem dX6_layGram_144 : decode cX6_layGram 144 = .ok (.if_icmp .ge 79, 3) := by decide +kernel
theorem dX6_layGram_147 : decode cX6_layGram 147 = .ok (.aload_n 0, 1) := by decide +kernel
theorem dX6_layGram_148 : decode cX6_layGram 148 = .ok (.getfield 46, 3) := by decide +kernel
theorem dX6_layGram_151 : decode cX6_layGram 151 = .ok (.iload 7, 2) := by decide +kernel
theorem dX6_layGram_153 : decode cX6_layGram 153 = .ok (.dup2, 1) := by decide +kernel
theorem dX6_layGram_154 : decode cX6_layGram 154 = .ok (.laload, 1) := by decide +kernel
theorem dX6_layGram_155 : decode cX6_layGram 155 = .ok (.aload_n 0, 1) := by decide +kernel
theorem dX6_layGram_156 : decode cX6_layGram 156 = .ok (.getfield 55, 3) := by decide +kernel
theorem dX6_layGram_159 : decode cX6_layGram 159 = .ok (.iload 7, 2) := by decide +kernel
theorem dX6_layGram_161 : decode cX6_layGram 161 = .ok (.iaload, 1) := by decide +kernel
theorem dX6_layGram_162 : decode cX6_layGram 162 = .ok (.i2l, 1) := by decide +kernel
theorem dX6_layGram_163 : decode cX6_layGram 163 = .ok (.lload 5, 2) := by decide +kernel
theorem dX6_layGram_165 : decode cX6_layGram 165 = .ok (.lmul, 1) := by decide +kernel
theorem dX6_layGram_166 : decode cX6_layGram 166 = .ok (.ladd, 1) := by decide +kernel
theorem dX6_layGram_167 : decode cX6_layGram 167 = .ok (.lastore, 1) := by decide +kernel
theorem dX6_layGram_168 : decode cX6_layGram 168 = .ok (.iconst 0, 1) := by decide +kernel
theorem dX6_layGram_169 : decode cX6_layGram 169 = .ok (.istore 8, 2) := by decide +kernel
theorem dX6_layGram_171 : decode cX6_layGram 171 = .ok (.iload 8, 2) := by decide +kernel
theorem dX6_layGram_173 : decode cX6_layGram 173 = .ok (.aload_n 0, 1) := by decide +kernel
theorem dX6_layGram_174 : decode cX6_layGram 174 = .ok (.getfield 58, 3) := by decide +kernel
theorem dX6_layGram_177 : decode cX6_layGram 177 = .ok (.if_icmp .ge 40, 3) := by decide +kernel
theorem dX6_layGram_180 : decode cX6_layGram 180 = .ok (.aload_n 0, 1) := by decide +kernel
theorem dX6_layGram_181 : decode cX6_layGram 181 = .ok (.getfield 42, 3) := by decide +kernel
theorem dX6_layGram_184 : decode cX6_layGram 184 = .ok (.iconst 5, 1) := by decide +kernel
theorem dX6_layGram_185 : decode cX6_layGram 185 = .ok (.iload 7, 2) := by decide +kernel
theorem dX6_layGram_187 : decode cX6_layGram 187 = .ok (.imul, 1) := by decide +kernel
theorem dX6_layGram_188 : decode cX6_layGram 188 = .ok (.iload 8, 2) := by decide +kernel
theorem dX6_layGram_190 : decode cX6_layGram 190 = .ok (.iadd, 1) := by decide +kernel
theorem dX6_layGram_191 : decode cX6_layGram 191 = .ok (.dup2, 1) := by decide +kernel
theorem dX6_layGram_192 : decode cX6_layGram 192 = .ok (.laload, 1) := by decide +kernel
theorem dX6_layGram_193 : decode cX6_layGram 193 = .ok (.aload_n 0, 1) := by decide +kernel
theorem dX6_layGram_194 : decode cX6_layGram 194 = .ok (.getfield 55, 3) := by decide +kernel
theorem dX6_layGram_197 : decode cX6_layGram 197 = .ok (.iload 7, 2) := by decide +kernel
theorem dX6_layGram_199 : decode cX6_layGram 199 = .ok (.iaload, 1) := by decide +kernel
theorem dX6_layGram_200 : decode cX6_layGram 200 = .ok (.aload_n 0, 1) := by decide +kernel
theorem dX6_layGram_201 : decode cX6_layGram 201 = .ok (.getfield 55, 3) := by decide +kernel
theorem dX6_layGram_204 : decode cX6_layGram 204 = .ok (.iload 8, 2) := by decide +kernel
theorem dX6_layGram_206 : decode cX6_layGram 206 = .ok (.iaload, 1) := by decide +kernel
theorem dX6_layGram_207 : decode cX6_layGram 207 = .ok (.imul, 1) := by decide +kernel
theorem dX6_layGram_208 : decode cX6_layGram 208 = .ok (.i2l, 1) := by decide +kernel
theorem dX6_layGram_209 : decode cX6_layGram 209 = .ok (.ladd, 1) := by decide +kernel
theorem dX6_layGram_210 : decode cX6_layGram 210 = .ok (.lastore, 1) := by decide +kernel
theorem dX6_layGram_211 : decode cX6_layGram 211 = .ok (.iinc 8 1, 3) := by decide +kernel
theorem dX6_layGram_214 : decode cX6_layGram 214 = .ok (.goto (-43), 3) := by decide +kernel
theorem dX6_layGram_217 : decode cX6_layGram 217 = .ok (.iinc 7 1, 3) := by decide +kernel
theorem dX6_layGram_220 : decode cX6_layGram 220 = .ok (.goto (-82), 3) := by decide +kernel
theorem dX6_layGram_223 : decode cX6_layGram 223 = .ok (.iinc 4 1, 3) := by decide +kernel
theorem dX6_layGram_226 : decode cX6_layGram 226 = .ok (.goto (-150), 3) := by decide +kernel
theorem dX6_layGram_229 : decode cX6_layGram 229 = .ok (.return_, 1) := by decide +kernel
theorem dX6_determinant_0 : decode cX6_determinant 0 = .ok (.lconst 1, 1) := by decide +kernel
theorem dX6_determinant_1 : decode cX6_determinant 1 = .ok (.lstore_n 2, 1) := by decide +kernel
theorem dX6_determinant_2 : decode cX6_determinant 2 = .ok (.lconst 1, 1) := by decide +kernel
theorem dX6_determinant_3 : decode cX6_determinant 3 = .ok (.lstore 4, 2) := by decide +kernel
theorem dX6_determinant_5 : decode cX6_determinant 5 = .ok (.iconst 0, 1) := by decide +kernel
theorem dX6_determinant_6 : decode cX6_determinant 6 = .ok (.istore 6, 2) := by decide +kernel
theorem dX6_determinant_8 : decode cX6_determinant 8 = .ok (.iload 6, 2) := by decide +kernel
theorem dX6_determinant_10 : decode cX6_determinant 10 = .ok (.iload_n 1, 1) := by decide +kernel
theorem dX6_determinant_11 : decode cX6_determinant 11 = .ok (.if_icmp .ge 243, 3) := by decide +kernel
theorem dX6_determinant_14 : decode cX6_determinant 14 = .ok (.iload 6, 2) := by decide +kernel
theorem dX6_determinant_16 : decode cX6_determinant 16 = .ok (.istore 7, 2) := by decide +kernel
theorem dX6_determinant_18 : decode cX6_determinant 18 = .ok (.iload 7, 2) := by decide +kernel
theorem dX6_determinant_20 : decode cX6_determinant 20 = .ok (.iload_n 1, 1) := by decide +kernel
theorem dX6_determinant_21 : decode cX6_determinant 21 = .ok (.if_icmp .ge 26, 3) := by decide +kernel
theorem dX6_determinant_24 : decode cX6_determinant 24 = .ok (.aload_n 0, 1) := by decide +kernel
theorem dX6_determinant_25 : decode cX6_determinant 25 = .ok (.getfield 49, 3) := by decide +kernel
theorem dX6_determinant_28 : decode cX6_determinant 28 = .ok (.iconst 5, 1) := by decide +kernel
theorem dX6_determinant_29 : decode cX6_determinant 29 = .ok (.iload 7, 2) := by decide +kernel
theorem dX6_determinant_31 : decode cX6_determinant 31 = .ok (.imul, 1) := by decide +kernel
theorem dX6_determinant_32 : decode cX6_determinant 32 = .ok (.iload 6, 2) := by decide +kernel
theorem dX6_determinant_34 : decode cX6_determinant 34 = .ok (.iadd, 1) := by decide +kernel
theorem dX6_determinant_35 : decode cX6_determinant 35 = .ok (.laload, 1) := by decide +kernel
theorem dX6_determinant_36 : decode cX6_determinant 36 = .ok (.lconst 0, 1) := by decide +kernel
theorem dX6_determinant_37 : decode cX6_determinant 37 = .ok (.lcmp, 1) := by decide +kernel
theorem dX6_determinant_38 : decode cX6_determinant 38 = .ok (.ifCond .ne 9, 3) := by decide +kernel
theorem dX6_determinant_41 : decode cX6_determinant 41 = .ok (.iinc 7 1, 3) := by decide +kernel
theorem dX6_determinant_44 : decode cX6_determinant 44 = .ok (.goto (-26), 3) := by decide +kernel
theorem dX6_determinant_47 : decode cX6_determinant 47 = .ok (.iload 7, 2) := by decide +kernel
theorem dX6_determinant_49 : decode cX6_determinant 49 = .ok (.iload_n 1, 1) := by decide +kernel
theorem dX6_determinant_50 : decode cX6_determinant 50 = .ok (.if_icmp .ne 5, 3) := by decide +kernel
theorem dX6_determinant_53 : decode cX6_determinant 53 = .ok (.lconst 0, 1) := by decide +kernel
theorem dX6_determinant_54 : decode cX6_determinant 54 = .ok (.lreturn, 1) := by decide +kernel
theorem dX6_determinant_55 : decode cX6_determinant 55 = .ok (.iload 7, 2) := by decide +kernel
theorem dX6_determinant_57 : decode cX6_determinant 57 = .ok (.iload 6, 2) := by decide +kernel
theorem dX6_determinant_59 : decode cX6_determinant 59 = .ok (.if_icmp .eq 75, 3) := by decide +kernel
theorem dX6_determinant_62 : decode cX6_determinant 62 = .ok (.lload 4, 2) := by decide +kernel
theorem dX6_determinant_64 : decode cX6_determinant 64 = .ok (.lneg, 1) := by decide +kernel
theorem dX6_determinant_65 : decode cX6_determinant 65 = .ok (.lstore 4, 2) := by decide +kernel
theorem dX6_determinant_67 : decode cX6_determinant 67 = .ok (.iconst 0, 1) := by decide +kernel
theorem dX6_determinant_68 : decode cX6_determinant 68 = .ok (.istore 8, 2) := by decide +kernel
theorem dX6_determinant_70 : decode cX6_determinant 70 = .ok (.iload 8, 2) := by decide +kernel
theorem dX6_determinant_72 : decode cX6_determinant 72 = .ok (.iload_n 1, 1) := by decide +kernel
theorem dX6_determinant_73 : decode cX6_determinant 73 = .ok (.if_icmp .ge 61, 3) := by decide +kernel
theorem dX6_determinant_76 : decode cX6_determinant 76 = .ok (.aload_n 0, 1) := by decide +kernel
theorem dX6_determinant_77 : decode cX6_determinant 77 = .ok (.getfield 49, 3) := by decide +kernel
theorem dX6_determinant_80 : decode cX6_determinant 80 = .ok (.iconst 5, 1) := by decide +kernel
theorem dX6_determinant_81 : decode cX6_determinant 81 = .ok (.iload 7, 2) := by decide +kernel
theorem dX6_determinant_83 : decode cX6_determinant 83 = .ok (.imul, 1) := by decide +kernel
theorem dX6_determinant_84 : decode cX6_determinant 84 = .ok (.iload 8, 2) := by decide +kernel
theorem dX6_determinant_86 : decode cX6_determinant 86 = .ok (.iadd, 1) := by decide +kernel
theorem dX6_determinant_87 : decode cX6_determinant 87 = .ok (.laload, 1) := by decide +kernel
theorem dX6_determinant_88 : decode cX6_determinant 88 = .ok (.lstore 9, 2) := by decide +kernel
theorem dX6_determinant_90 : decode cX6_determinant 90 = .ok (.aload_n 0, 1) := by decide +kernel
theorem dX6_determinant_91 : decode cX6_determinant 91 = .ok (.getfield 49, 3) := by decide +kernel
theorem dX6_determinant_94 : decode cX6_determinant 94 = .ok (.iconst 5, 1) := by decide +kernel
theorem dX6_determinant_95 : decode cX6_determinant 95 = .ok (.iload 7, 2) := by decide +kernel
theorem dX6_determinant_97 : decode cX6_determinant 97 = .ok (.imul, 1) := by decide +kernel
theorem dX6_determinant_98 : decode cX6_determinant 98 = .ok (.iload 8, 2) := by decide +kernel
theorem dX6_determinant_100 : decode cX6_determinant 100 = .ok (.iadd, 1) := by decide +kernel
theorem dX6_determinant_101 : decode cX6_determinant 101 = .ok (.aload_n 0, 1) := by decide +kernel
theorem dX6_determinant_102 : decode cX6_determinant 102 = .ok (.getfield 49, 3) := by decide +kernel
theorem dX6_determinant_105 : decode cX6_determinant 105 = .ok (.iconst 5, 1) := by decide +kernel
theorem dX6_determinant_106 : decode cX6_determinant 106 = .ok (.iload 6, 2) := by decide +kernel
theorem dX6_determinant_108 : decode cX6_determinant 108 = .ok (.imul, 1) := by decide +kernel
theorem dX6_determinant_109 : decode cX6_determinant 109 = .ok (.iload 8, 2) := by decide +kernel
theorem dX6_determinant_111 : decode cX6_determinant 111 = .ok (.iadd, 1) := by decide +kernel
theorem dX6_determinant_112 : decode cX6_determinant 112 = .ok (.laload, 1) := by decide +kernel
theorem dX6_determinant_113 : decode cX6_determinant 113 = .ok (.lastore, 1) := by decide +kernel
theorem dX6_determinant_114 : decode cX6_determinant 114 = .ok (.aload_n 0, 1) := by decide +kernel
theorem dX6_determinant_115 : decode cX6_determinant 115 = .ok (.getfield 49, 3) := by decide +kernel
theorem dX6_determinant_118 : decode cX6_determinant 118 = .ok (.iconst 5, 1) := by decide +kernel
theorem dX6_determinant_119 : decode cX6_determinant 119 = .ok (.iload 6, 2) := by decide +kernel
theorem dX6_determinant_121 : decode cX6_determinant 121 = .ok (.imul, 1) := by decide +kernel
theorem dX6_determinant_122 : decode cX6_determinant 122 = .ok (.iload 8, 2) := by decide +kernel
theorem dX6_determinant_124 : decode cX6_determinant 124 = .ok (.iadd, 1) := by decide +kernel
theorem dX6_determinant_125 : decode cX6_determinant 125 = .ok (.lload 9, 2) := by decide +kernel
theorem dX6_determinant_127 : decode cX6_determinant 127 = .ok (.lastore, 1) := by decide +kernel
theorem dX6_determinant_128 : decode cX6_determinant 128 = .ok (.iinc 8 1, 3) := by decide +kernel
theorem dX6_determinant_131 : decode cX6_determinant 131 = .ok (.goto (-61), 3) := by decide +kernel
theorem dX6_determinant_134 : decode cX6_determinant 134 = .ok (.iload 6, 2) := by decide +kernel
theorem dX6_determinant_136 : decode cX6_determinant 136 = .ok (.iconst 1, 1) := by decide +kernel
theorem dX6_determinant_137 : decode cX6_determinant 137 = .ok (.iadd, 1) := by decide +kernel
theorem dX6_determinant_138 : decode cX6_determinant 138 = .ok (.istore 8, 2) := by decide +kernel
theorem dX6_determinant_140 : decode cX6_determinant 140 = .ok (.iload 8, 2) := by decide +kernel
theorem dX6_determinant_142 : decode cX6_determinant 142 = .ok (.iload_n 1, 1) := by decide +kernel
theorem dX6_determinant_143 : decode cX6_determinant 143 = .ok (.if_icmp .ge 92, 3) := by decide +kernel
theorem dX6_determinant_146 : decode cX6_determinant 146 = .ok (.iload_n 1, 1) := by decide +kernel
theorem dX6_determinant_147 : decode cX6_determinant 147 = .ok (.iconst 1, 1) := by decide +kernel
theorem dX6_determinant_148 : decode cX6_determinant 148 = .ok (.isub, 1) := by decide +kernel
theorem dX6_determinant_149 : decode cX6_determinant 149 = .ok (.istore 9, 2) := by decide +kernel
theorem dX6_determinant_151 : decode cX6_determinant 151 = .ok (.iload 9, 2) := by decide +kernel
theorem dX6_determinant_153 : decode cX6_determinant 153 = .ok (.iload 6, 2) := by decide +kernel
theorem dX6_determinant_155 : decode cX6_determinant 155 = .ok (.if_icmp .lt 74, 3) := by decide +kernel
theorem dX6_determinant_158 : decode cX6_determinant 158 = .ok (.aload_n 0, 1) := by decide +kernel
theorem dX6_determinant_159 : decode cX6_determinant 159 = .ok (.getfield 49, 3) := by decide +kernel
theorem dX6_determinant_162 : decode cX6_determinant 162 = .ok (.iconst 5, 1) := by decide +kernel
theorem dX6_determinant_163 : decode cX6_determinant 163 = .ok (.iload 8, 2) := by decide +kernel
theorem dX6_determinant_165 : decode cX6_determinant 165 = .ok (.imul, 1) := by decide +kernel
theorem dX6_determinant_166 : decode cX6_determinant 166 = .ok (.iload 9, 2) := by decide +kernel
theorem dX6_determinant_168 : decode cX6_determinant 168 = .ok (.iadd, 1) := by decide +kernel
theorem dX6_determinant_169 : decode cX6_determinant 169 = .ok (.aload_n 0, 1) := by decide +kernel
theorem dX6_determinant_170 : decode cX6_determinant 170 = .ok (.getfield 49, 3) := by decide +kernel
theorem dX6_determinant_173 : decode cX6_determinant 173 = .ok (.iconst 5, 1) := by decide +kernel
theorem dX6_determinant_174 : decode cX6_determinant 174 = .ok (.iload 8, 2) := by decide +kernel
theorem dX6_determinant_176 : decode cX6_determinant 176 = .ok (.imul, 1) := by decide +kernel
theorem dX6_determinant_177 : decode cX6_determinant 177 = .ok (.iload 9, 2) := by decide +kernel
theorem dX6_determinant_179 : decode cX6_determinant 179 = .ok (.iadd, 1) := by decide +kernel
theorem dX6_determinant_180 : decode cX6_determinant 180 = .ok (.laload, 1) := by decide +kernel
theorem dX6_determinant_181 : decode cX6_determinant 181 = .ok (.aload_n 0, 1) := by decide +kernel
theorem dX6_determinant_182 : decode cX6_determinant 182 = .ok (.getfield 49, 3) := by decide +kernel
theorem dX6_determinant_185 : decode cX6_determinant 185 = .ok (.iconst 5, 1) := by decide +kernel
theorem dX6_determinant_186 : decode cX6_determinant 186 = .ok (.iload 6, 2) := by decide +kernel
theorem dX6_determinant_188 : decode cX6_determinant 188 = .ok (.imul, 1) := by decide +kernel
theorem dX6_determinant_189 : decode cX6_determinant 189 = .ok (.iload 6, 2) := by decide +kernel
theorem dX6_determinant_191 : decode cX6_determinant 191 = .ok (.iadd, 1) := by decide +kernel
theorem dX6_determinant_192 : decode cX6_determinant 192 = .ok (.laload, 1) := by decide +kernel
theorem dX6_determinant_193 : decode cX6_determinant 193 = .ok (.lmul, 1) := by decide +kernel
theorem dX6_determinant_194 : decode cX6_determinant 194 = .ok (.aload_n 0, 1) := by decide +kernel
theorem dX6_determinant_195 : decode cX6_determinant 195 = .ok (.getfield 49, 3) := by decide +kernel
theorem dX6_determinant_198 : decode cX6_determinant 198 = .ok (.iconst 5, 1) := by decide +kernel
theorem dX6_determinant_199 : decode cX6_determinant 199 = .ok (.iload 8, 2) := by decide +kernel
theorem dX6_determinant_201 : decode cX6_determinant 201 = .ok (.imul, 1) := by decide +kernel
theorem dX6_determinant_202 : decode cX6_determinant 202 = .ok (.iload 6, 2) := by decide +kernel
theorem dX6_determinant_204 : decode cX6_determinant 204 = .ok (.iadd, 1) := by decide +kernel
theorem dX6_determinant_205 : decode cX6_determinant 205 = .ok (.laload, 1) := by decide +kernel
theorem dX6_determinant_206 : decode cX6_determinant 206 = .ok (.aload_n 0, 1) := by decide +kernel
theorem dX6_determinant_207 : decode cX6_determinant 207 = .ok (.getfield 49, 3) := by decide +kernel
theorem dX6_determinant_210 : decode cX6_determinant 210 = .ok (.iconst 5, 1) := by decide +kernel
theorem dX6_determinant_211 : decode cX6_determinant 211 = .ok (.iload 6, 2) := by decide +kernel
theorem dX6_determinant_213 : decode cX6_determinant 213 = .ok (.imul, 1) := by decide +kernel
theorem dX6_determinant_214 : decode cX6_determinant 214 = .ok (.iload 9, 2) := by decide +kernel
theorem dX6_determinant_216 : decode cX6_determinant 216 = .ok (.iadd, 1) := by decide +kernel
theorem dX6_determinant_217 : decode cX6_determinant 217 = .ok (.laload, 1) := by decide +kernel
theorem dX6_determinant_218 : decode cX6_determinant 218 = .ok (.lmul, 1) := by decide +kernel
theorem dX6_determinant_219 : decode cX6_determinant 219 = .ok (.lsub, 1) := by decide +kernel
theorem dX6_determinant_220 : decode cX6_determinant 220 = .ok (.lload_n 2, 1) := by decide +kernel
theorem dX6_determinant_221 : decode cX6_determinant 221 = .ok (.ldiv, 1) := by decide +kernel
theorem dX6_determinant_222 : decode cX6_determinant 222 = .ok (.lastore, 1) := by decide +kernel
theorem dX6_determinant_223 : decode cX6_determinant 223 = .ok (.iinc 9 (-1), 3) := by decide +kernel
theorem dX6_determinant_226 : decode cX6_determinant 226 = .ok (.goto (-75), 3) := by decide +kernel
theorem dX6_determinant_229 : decode cX6_determinant 229 = .ok (.iinc 8 1, 3) := by decide +kernel
theorem dX6_determinant_232 : decode cX6_determinant 232 = .ok (.goto (-92), 3) := by decide +kernel
theorem dX6_determinant_235 : decode cX6_determinant 235 = .ok (.aload_n 0, 1) := by decide +kernel
theorem dX6_determinant_236 : decode cX6_determinant 236 = .ok (.getfield 49, 3) := by decide +kernel
theorem dX6_determinant_239 : decode cX6_determinant 239 = .ok (.iconst 5, 1) := by decide +kernel
theorem dX6_determinant_240 : decode cX6_determinant 240 = .ok (.iload 6, 2) := by decide +kernel
theorem dX6_determinant_242 : decode cX6_determinant 242 = .ok (.imul, 1) := by decide +kernel
theorem dX6_determinant_243 : decode cX6_determinant 243 = .ok (.iload 6, 2) := by decide +kernel
theorem dX6_determinant_245 : decode cX6_determinant 245 = .ok (.iadd, 1) := by decide +kernel
theorem dX6_determinant_246 : decode cX6_determinant 246 = .ok (.laload, 1) := by decide +kernel
theorem dX6_determinant_247 : decode cX6_determinant 247 = .ok (.lstore_n 2, 1) := by decide +kernel
theorem dX6_determinant_248 : decode cX6_determinant 248 = .ok (.iinc 6 1, 3) := by decide +kernel
theorem dX6_determinant_251 : decode cX6_determinant 251 = .ok (.goto (-243), 3) := by decide +kernel
theorem dX6_determinant_254 : decode cX6_determinant 254 = .ok (.lload 4, 2) := by decide +kernel
theorem dX6_determinant_256 : decode cX6_determinant 256 = .ok (.lload_n 2, 1) := by decide +kernel
theorem dX6_determinant_257 : decode cX6_determinant 257 = .ok (.lmul, 1) := by decide +kernel
theorem dX6_determinant_258 : decode cX6_determinant 258 = .ok (.lreturn, 1) := by decide +kernel
theorem dX6_minor_0 : decode cX6_minor 0 = .ok (.iconst 0, 1) := by decide +kernel
theorem dX6_minor_1 : decode cX6_minor 1 = .ok (.istore_n 3, 1) := by decide +kernel
theorem dX6_minor_2 : decode cX6_minor 2 = .ok (.iconst 0, 1) := by decide +kernel
theorem dX6_minor_3 : decode cX6_minor 3 = .ok (.istore 4, 2) := by decide +kernel
theorem dX6_minor_5 : decode cX6_minor 5 = .ok (.iload 4, 2) := by decide +kernel
theorem dX6_minor_7 : decode cX6_minor 7 = .ok (.aload_n 0, 1) := by decide +kernel
theorem dX6_minor_8 : decode cX6_minor 8 = .ok (.getfield 58, 3) := by decide +kernel
theorem dX6_minor_11 : decode cX6_minor 11 = .ok (.if_icmp .ge 29, 3) := by decide +kernel
theorem dX6_minor_14 : decode cX6_minor 14 = .ok (.iload_n 1, 1) := by decide +kernel
theorem dX6_minor_15 : decode cX6_minor 15 = .ok (.iload 4, 2) := by decide +kernel
theorem dX6_minor_17 : decode cX6_minor 17 = .ok (.invokestatic 136, 3) := by decide +kernel
theorem dX6_minor_20 : decode cX6_minor 20 = .ok (.ifCond .eq 14, 3) := by decide +kernel
theorem dX6_minor_23 : decode cX6_minor 23 = .ok (.aload_n 0, 1) := by decide +kernel
theorem dX6_minor_24 : decode cX6_minor 24 = .ok (.getfield 52, 3) := by decide +kernel
theorem dX6_minor_27 : decode cX6_minor 27 = .ok (.iload_n 3, 1) := by decide +kernel
theorem dX6_minor_28 : decode cX6_minor 28 = .ok (.iload 4, 2) := by decide +kernel
theorem dX6_minor_30 : decode cX6_minor 30 = .ok (.iastore, 1) := by decide +kernel
theorem dX6_minor_31 : decode cX6_minor 31 = .ok (.iinc 3 1, 3) := by decide +kernel
theorem dX6_minor_34 : decode cX6_minor 34 = .ok (.iinc 4 1, 3) := by decide +kernel
theorem dX6_minor_37 : decode cX6_minor 37 = .ok (.goto (-32), 3) := by decide +kernel
theorem dX6_minor_40 : decode cX6_minor 40 = .ok (.iconst 0, 1) := by decide +kernel
theorem dX6_minor_41 : decode cX6_minor 41 = .ok (.istore 4, 2) := by decide +kernel
theorem dX6_minor_43 : decode cX6_minor 43 = .ok (.iload 4, 2) := by decide +kernel
theorem dX6_minor_45 : decode cX6_minor 45 = .ok (.iload_n 3, 1) := by decide +kernel
theorem dX6_minor_46 : decode cX6_minor 46 = .ok (.if_icmp .ge 84, 3) := by decide +kernel
theorem dX6_minor_49 : decode cX6_minor 49 = .ok (.iconst 0, 1) := by decide +kernel
theorem dX6_minor_50 : decode cX6_minor 50 = .ok (.istore 5, 2) := by decide +kernel
theorem dX6_minor_52 : decode cX6_minor 52 = .ok (.iload 5, 2) := by decide +kernel
theorem dX6_minor_54 : decode cX6_minor 54 = .ok (.iload_n 3, 1) := by decide +kernel
theorem dX6_minor_55 : decode cX6_minor 55 = .ok (.if_icmp .ge 69, 3) := by decide +kernel
theorem dX6_minor_58 : decode cX6_minor 58 = .ok (.aload_n 0, 1) := by decide +kernel
theorem dX6_minor_59 : decode cX6_minor 59 = .ok (.getfield 49, 3) := by decide +kernel
theorem dX6_minor_62 : decode cX6_minor 62 = .ok (.iconst 5, 1) := by decide +kernel
theorem dX6_minor_63 : decode cX6_minor 63 = .ok (.iload 4, 2) := by decide +kernel
theorem dX6_minor_65 : decode cX6_minor 65 = .ok (.imul, 1) := by decide +kernel
theorem dX6_minor_66 : decode cX6_minor 66 = .ok (.iload 5, 2) := by decide +kernel
theorem dX6_minor_68 : decode cX6_minor 68 = .ok (.iadd, 1) := by decide +kernel
theorem dX6_minor_69 : decode cX6_minor 69 = .ok (.aload_n 0, 1) := by decide +kernel
theorem dX6_minor_70 : decode cX6_minor 70 = .ok (.getfield 52, 3) := by decide +kernel
theorem dX6_minor_73 : decode cX6_minor 73 = .ok (.iload 5, 2) := by decide +kernel
theorem dX6_minor_75 : decode cX6_minor 75 = .ok (.iaload, 1) := by decide +kernel
theorem dX6_minor_76 : decode cX6_minor 76 = .ok (.iload_n 2, 1) := by decide +kernel
theorem dX6_minor_77 : decode cX6_minor 77 = .ok (.if_icmp .ne 18, 3) := by decide +kernel
theorem dX6_minor_80 : decode cX6_minor 80 = .ok (.aload_n 0, 1) := by decide +kernel
theorem dX6_minor_81 : decode cX6_minor 81 = .ok (.getfield 46, 3) := by decide +kernel
theorem dX6_minor_84 : decode cX6_minor 84 = .ok (.aload_n 0, 1) := by decide +kernel
theorem dX6_minor_85 : decode cX6_minor 85 = .ok (.getfield 52, 3) := by decide +kernel
theorem dX6_minor_88 : decode cX6_minor 88 = .ok (.iload 4, 2) := by decide +kernel
theorem dX6_minor_90 : decode cX6_minor 90 = .ok (.iaload, 1) := by decide +kernel
theorem dX6_minor_91 : decode cX6_minor 91 = .ok (.laload, 1) := by decide +kernel
theorem dX6_minor_92 : decode cX6_minor 92 = .ok (.goto 25, 3) := by decide +kernel
theorem dX6_minor_95 : decode cX6_minor 95 = .ok (.aload_n 0, 1) := by decide +kernel
theorem dX6_minor_96 : decode cX6_minor 96 = .ok (.getfield 42, 3) := by decide +kernel
theorem dX6_minor_99 : decode cX6_minor 99 = .ok (.iconst 5, 1) := by decide +kernel
theorem dX6_minor_100 : decode cX6_minor 100 = .ok (.aload_n 0, 1) := by decide +kernel
theorem dX6_minor_101 : decode cX6_minor 101 = .ok (.getfield 52, 3) := by decide +kernel
theorem dX6_minor_104 : decode cX6_minor 104 = .ok (.iload 4, 2) := by decide +kernel
theorem dX6_minor_106 : decode cX6_minor 106 = .ok (.iaload, 1) := by decide +kernel
theorem dX6_minor_107 : decode cX6_minor 107 = .ok (.imul, 1) := by decide +kernel
theorem dX6_minor_108 : decode cX6_minor 108 = .ok (.aload_n 0, 1) := by decide +kernel
theorem dX6_minor_109 : decode cX6_minor 109 = .ok (.getfield 52, 3) := by decide +kernel
theorem dX6_minor_112 : decode cX6_minor 112 = .ok (.iload 5, 2) := by decide +kernel
theorem dX6_minor_114 : decode cX6_minor 114 = .ok (.iaload, 1) := by decide +kernel
theorem dX6_minor_115 : decode cX6_minor 115 = .ok (.iadd, 1) := by decide +kernel
theorem dX6_minor_116 : decode cX6_minor 116 = .ok (.laload, 1) := by decide +kernel
theorem dX6_minor_117 : decode cX6_minor 117 = .ok (.lastore, 1) := by decide +kernel
theorem dX6_minor_118 : decode cX6_minor 118 = .ok (.iinc 5 1, 3) := by decide +kernel
theorem dX6_minor_121 : decode cX6_minor 121 = .ok (.goto (-69), 3) := by decide +kernel
theorem dX6_minor_124 : decode cX6_minor 124 = .ok (.iinc 4 1, 3) := by decide +kernel
theorem dX6_minor_127 : decode cX6_minor 127 = .ok (.goto (-84), 3) := by decide +kernel
theorem dX6_minor_130 : decode cX6_minor 130 = .ok (.aload_n 0, 1) := by decide +kernel
theorem dX6_minor_131 : decode cX6_minor 131 = .ok (.iload_n 3, 1) := by decide +kernel
theorem dX6_minor_132 : decode cX6_minor 132 = .ok (.invokevirtual 148, 3) := by decide +kernel
theorem dX6_minor_135 : decode cX6_minor 135 = .ok (.lreturn, 1) := by decide +kernel
theorem dX6_columns_0 : decode cX6_columns 0 = .ok (.iconst 1, 1) := by decide +kernel
theorem dX6_columns_1 : decode cX6_columns 1 = .ok (.aload_n 0, 1) := by decide +kernel
theorem dX6_columns_2 : decode cX6_columns 2 = .ok (.getfield 58, 3) := by decide +kernel
theorem dX6_columns_5 : decode cX6_columns 5 = .ok (.ishl, 1) := by decide +kernel
theorem dX6_columns_6 : decode cX6_columns 6 = .ok (.iconst 1, 1) := by decide +kernel
theorem dX6_columns_7 : decode cX6_columns 7 = .ok (.isub, 1) := by decide +kernel
theorem dX6_columns_8 : decode cX6_columns 8 = .ok (.ireturn, 1) := by decide +kernel
theorem dX6_rankOf_0 : decode cX6_rankOf 0 = .ok (.aload_n 0, 1) := by decide +kernel
theorem dX6_rankOf_1 : decode cX6_rankOf 1 = .ok (.aload_n 1, 1) := by decide +kernel
theorem dX6_rankOf_2 : decode cX6_rankOf 2 = .ok (.iload_n 2, 1) := by decide +kernel
theorem dX6_rankOf_3 : decode cX6_rankOf 3 = .ok (.iload_n 3, 1) := by decide +kernel
theorem dX6_rankOf_4 : decode cX6_rankOf 4 = .ok (.invokevirtual 152, 3) := by decide +kernel
theorem dX6_rankOf_7 : decode cX6_rankOf 7 = .ok (.iconst 0, 1) := by decide +kernel
theorem dX6_rankOf_8 : decode cX6_rankOf 8 = .ok (.istore 4, 2) := by decide +kernel
theorem dX6_rankOf_10 : decode cX6_rankOf 10 = .ok (.iconst 1, 1) := by decide +kernel
theorem dX6_rankOf_11 : decode cX6_rankOf 11 = .ok (.istore 5, 2) := by decide +kernel
theorem dX6_rankOf_13 : decode cX6_rankOf 13 = .ok (.iload 5, 2) := by decide +kernel
theorem dX6_rankOf_15 : decode cX6_rankOf 15 = .ok (.aload_n 0, 1) := by decide +kernel
theorem dX6_rankOf_16 : decode cX6_rankOf 16 = .ok (.invokevirtual 155, 3) := by decide +kernel
theorem dX6_rankOf_19 : decode cX6_rankOf 19 = .ok (.if_icmp .gt 44, 3) := by decide +kernel
theorem dX6_rankOf_22 : decode cX6_rankOf 22 = .ok (.iload 5, 2) := by decide +kernel
theorem dX6_rankOf_24 : decode cX6_rankOf 24 = .ok (.invokestatic 158, 3) := by decide +kernel
theorem dX6_rankOf_27 : decode cX6_rankOf 27 = .ok (.iload 4, 2) := by decide +kernel
theorem dX6_rankOf_29 : decode cX6_rankOf 29 = .ok (.if_icmp .le 24, 3) := by decide +kernel
theorem dX6_rankOf_32 : decode cX6_rankOf 32 = .ok (.aload_n 0, 1) := by decide +kernel
theorem dX6_rankOf_33 : decode cX6_rankOf 33 = .ok (.iload 5, 2) := by decide +kernel
theorem dX6_rankOf_35 : decode cX6_rankOf 35 = .ok (.bipush (-9), 2) := by decide +kernel
theorem dX6_rankOf_37 : decode cX6_rankOf 37 = .ok (.invokevirtual 162, 3) := by decide +kernel
theorem dX6_rankOf_40 : decode cX6_rankOf 40 = .ok (.lconst 0, 1) := by decide +kernel
theorem dX6_rankOf_41 : decode cX6_rankOf 41 = .ok (.lcmp, 1) := by decide +kernel
theorem dX6_rankOf_42 : decode cX6_rankOf 42 = .ok (.ifCond .eq 11, 3) := by decide +kernel
theorem dX6_rankOf_45 : decode cX6_rankOf 45 = .ok (.iload 5, 2) := by decide +kernel
theorem dX6_rankOf_47 : decode cX6_rankOf 47 = .ok (.invokestatic 158, 3) := by decide +kernel
theorem dX6_rankOf_50 : decode cX6_rankOf 50 = .ok (.goto 5, 3) := by decide +kernel
theorem dX6_rankOf_53 : decode cX6_rankOf 53 = .ok (.iload 4, 2) := by decide +kernel
theorem dX6_rankOf_55 : decode cX6_rankOf 55 = .ok (.istore 4, 2) := by decide +kernel
theorem dX6_rankOf_57 : decode cX6_rankOf 57 = .ok (.iinc 5 1, 3) := by decide +kernel
theorem dX6_rankOf_60 : decode cX6_rankOf 60 = .ok (.goto (-47), 3) := by decide +kernel
theorem dX6_rankOf_63 : decode cX6_rankOf 63 = .ok (.iload 4, 2) := by decide +kernel
theorem dX6_rankOf_65 : decode cX6_rankOf 65 = .ok (.ireturn, 1) := by decide +kernel
theorem dX6_isLaid_0 : decode cX6_isLaid 0 = .ok (.aload_n 0, 1) := by decide +kernel
theorem dX6_isLaid_1 : decode cX6_isLaid 1 = .ok (.aload_n 1, 1) := by decide +kernel
theorem dX6_isLaid_2 : decode cX6_isLaid 2 = .ok (.iload_n 2, 1) := by decide +kernel
theorem dX6_isLaid_3 : decode cX6_isLaid 3 = .ok (.iload_n 3, 1) := by decide +kernel
theorem dX6_isLaid_4 : decode cX6_isLaid 4 = .ok (.invokevirtual 152, 3) := by decide +kernel
theorem dX6_isLaid_7 : decode cX6_isLaid 7 = .ok (.aload_n 0, 1) := by decide +kernel
theorem dX6_isLaid_8 : decode cX6_isLaid 8 = .ok (.aload_n 0, 1) := by decide +kernel
theorem dX6_isLaid_9 : decode cX6_isLaid 9 = .ok (.invokevirtual 155, 3) := by decide +kernel
theorem dX6_isLaid_12 : decode cX6_isLaid 12 = .ok (.bipush (-9), 2) := by decide +kernel
theorem dX6_isLaid_14 : decode cX6_isLaid 14 = .ok (.invokevirtual 162, 3) := by decide +kernel
theorem dX6_isLaid_17 : decode cX6_isLaid 17 = .ok (.lconst 0, 1) := by decide +kernel
theorem dX6_isLaid_18 : decode cX6_isLaid 18 = .ok (.lcmp, 1) := by decide +kernel
theorem dX6_isLaid_19 : decode cX6_isLaid 19 = .ok (.ifCond .eq 7, 3) := by decide +kernel
theorem dX6_isLaid_22 : decode cX6_isLaid 22 = .ok (.iconst 1, 1) := by decide +kernel
theorem dX6_isLaid_23 : decode cX6_isLaid 23 = .ok (.goto 4, 3) := by decide +kernel
theorem dX6_isLaid_26 : decode cX6_isLaid 26 = .ok (.iconst 0, 1) := by decide +kernel
theorem dX6_isLaid_27 : decode cX6_isLaid 27 = .ok (.ireturn, 1) := by decide +kernel
theorem dX6_divisor_0 : decode cX6_divisor 0 = .ok (.lload_n 0, 1) := by decide +kernel
theorem dX6_divisor_1 : decode cX6_divisor 1 = .ok (.lconst 0, 1) := by decide +kernel
theorem dX6_divisor_2 : decode cX6_divisor 2 = .ok (.lcmp, 1) := by decide +kernel
theorem dX6_divisor_3 : decode cX6_divisor 3 = .ok (.ifCond .ge 8, 3) := by decide +kernel
theorem dX6_divisor_6 : decode cX6_divisor 6 = .ok (.lload_n 0, 1) := by decide +kernel
theorem dX6_divisor_7 : decode cX6_divisor 7 = .ok (.lneg, 1) := by decide +kernel
theorem dX6_divisor_8 : decode cX6_divisor 8 = .ok (.goto 4, 3) := by decide +kernel
theorem dX6_divisor_11 : decode cX6_divisor 11 = .ok (.lload_n 0, 1) := by decide +kernel
theorem dX6_divisor_12 : decode cX6_divisor 12 = .ok (.lstore 4, 2) := by decide +kernel
theorem dX6_divisor_14 : decode cX6_divisor 14 = .ok (.lload_n 2, 1) := by decide +kernel
theorem dX6_divisor_15 : decode cX6_divisor 15 = .ok (.lconst 0, 1) := by decide +kernel
theorem dX6_divisor_16 : decode cX6_divisor 16 = .ok (.lcmp, 1) := by decide +kernel
theorem dX6_divisor_17 : decode cX6_divisor 17 = .ok (.ifCond .ge 8, 3) := by decide +kernel
theorem dX6_divisor_20 : decode cX6_divisor 20 = .ok (.lload_n 2, 1) := by decide +kernel
theorem dX6_divisor_21 : decode cX6_divisor 21 = .ok (.lneg, 1) := by decide +kernel
theorem dX6_divisor_22 : decode cX6_divisor 22 = .ok (.goto 4, 3) := by decide +kernel
theorem dX6_divisor_25 : decode cX6_divisor 25 = .ok (.lload_n 2, 1) := by decide +kernel
theorem dX6_divisor_26 : decode cX6_divisor 26 = .ok (.lstore 6, 2) := by decide +kernel
theorem dX6_divisor_28 : decode cX6_divisor 28 = .ok (.lload 6, 2) := by decide +kernel
theorem dX6_divisor_30 : decode cX6_divisor 30 = .ok (.lconst 0, 1) := by decide +kernel
theorem dX6_divisor_31 : decode cX6_divisor 31 = .ok (.lcmp, 1) := by decide +kernel
theorem dX6_divisor_32 : decode cX6_divisor 32 = .ok (.ifCond .eq 21, 3) := by decide +kernel
theorem dX6_divisor_35 : decode cX6_divisor 35 = .ok (.lload 4, 2) := by decide +kernel
theorem dX6_divisor_37 : decode cX6_divisor 37 = .ok (.lload 6, 2) := by decide +kernel
theorem dX6_divisor_39 : decode cX6_divisor 39 = .ok (.lrem, 1) := by decide +kernel
theorem dX6_divisor_40 : decode cX6_divisor 40 = .ok (.lstore 8, 2) := by decide +kernel
theorem dX6_divisor_42 : decode cX6_divisor 42 = .ok (.lload 6, 2) := by decide +kernel
theorem dX6_divisor_44 : decode cX6_divisor 44 = .ok (.lstore 4, 2) := by decide +kernel
theorem dX6_divisor_46 : decode cX6_divisor 46 = .ok (.lload 8, 2) := by decide +kernel
theorem dX6_divisor_48 : decode cX6_divisor 48 = .ok (.lstore 6, 2) := by decide +kernel
theorem dX6_divisor_50 : decode cX6_divisor 50 = .ok (.goto (-22), 3) := by decide +kernel
theorem dX6_divisor_53 : decode cX6_divisor 53 = .ok (.lload 4, 2) := by decide +kernel
theorem dX6_divisor_55 : decode cX6_divisor 55 = .ok (.lreturn, 1) := by decide +kernel
theorem dX6_layFraction_0 : decode cX6_layFraction 0 = .ok (.lload_n 1, 1) := by decide +kernel
theorem dX6_layFraction_1 : decode cX6_layFraction 1 = .ok (.lload_n 3, 1) := by decide +kernel
theorem dX6_layFraction_2 : decode cX6_layFraction 2 = .ok (.invokestatic 166, 3) := by decide +kernel
theorem dX6_layFraction_5 : decode cX6_layFraction 5 = .ok (.lstore 5, 2) := by decide +kernel
theorem dX6_layFraction_7 : decode cX6_layFraction 7 = .ok (.aload_n 0, 1) := by decide +kernel
theorem dX6_layFraction_8 : decode cX6_layFraction 8 = .ok (.lload_n 3, 1) := by decide +kernel
theorem dX6_layFraction_9 : decode cX6_layFraction 9 = .ok (.lconst 0, 1) := by decide +kernel
theorem dX6_layFraction_10 : decode cX6_layFraction 10 = .ok (.lcmp, 1) := by decide +kernel
theorem dX6_layFraction_11 : decode cX6_layFraction 11 = .ok (.ifCond .ge 11, 3) := by decide +kernel
theorem dX6_layFraction_14 : decode cX6_layFraction 14 = .ok (.lload_n 1, 1) := by decide +kernel
theorem dX6_layFraction_15 : decode cX6_layFraction 15 = .ok (.lneg, 1) := by decide +kernel
theorem dX6_layFraction_16 : decode cX6_layFraction 16 = .ok (.lload 5, 2) := by decide +kernel
theorem dX6_layFraction_18 : decode cX6_layFraction 18 = .ok (.ldiv, 1) := by decide +kernel
theorem dX6_layFraction_19 : decode cX6_layFraction 19 = .ok (.goto 7, 3) := by decide +kernel
theorem dX6_layFraction_22 : decode cX6_layFraction 22 = .ok (.lload_n 1, 1) := by decide +kernel
theorem dX6_layFraction_23 : decode cX6_layFraction 23 = .ok (.lload 5, 2) := by decide +kernel
theorem dX6_layFraction_25 : decode cX6_layFraction 25 = .ok (.ldiv, 1) := by decide +kernel
theorem dX6_layFraction_26 : decode cX6_layFraction 26 = .ok (.putfield 170, 3) := by decide +kernel
theorem dX6_layFraction_29 : decode cX6_layFraction 29 = .ok (.aload_n 0, 1) := by decide +kernel
theorem dX6_layFraction_30 : decode cX6_layFraction 30 = .ok (.lload_n 3, 1) := by decide +kernel
theorem dX6_layFraction_31 : decode cX6_layFraction 31 = .ok (.lconst 0, 1) := by decide +kernel
theorem dX6_layFraction_32 : decode cX6_layFraction 32 = .ok (.lcmp, 1) := by decide +kernel
theorem dX6_layFraction_33 : decode cX6_layFraction 33 = .ok (.ifCond .ge 11, 3) := by decide +kernel
theorem dX6_layFraction_36 : decode cX6_layFraction 36 = .ok (.lload_n 3, 1) := by decide +kernel
theorem dX6_layFraction_37 : decode cX6_layFraction 37 = .ok (.lneg, 1) := by decide +kernel
theorem dX6_layFraction_38 : decode cX6_layFraction 38 = .ok (.lload 5, 2) := by decide +kernel
theorem dX6_layFraction_40 : decode cX6_layFraction 40 = .ok (.ldiv, 1) := by decide +kernel
theorem dX6_layFraction_41 : decode cX6_layFraction 41 = .ok (.goto 7, 3) := by decide +kernel
theorem dX6_layFraction_44 : decode cX6_layFraction 44 = .ok (.lload_n 3, 1) := by decide +kernel
theorem dX6_layFraction_45 : decode cX6_layFraction 45 = .ok (.lload 5, 2) := by decide +kernel
theorem dX6_layFraction_47 : decode cX6_layFraction 47 = .ok (.ldiv, 1) := by decide +kernel
theorem dX6_layFraction_48 : decode cX6_layFraction 48 = .ok (.putfield 173, 3) := by decide +kernel
theorem dX6_layFraction_51 : decode cX6_layFraction 51 = .ok (.return_, 1) := by decide +kernel
theorem dX6_told_0 : decode cX6_told 0 = .ok (.iload_n 1, 1) := by decide +kernel
theorem dX6_told_1 : decode cX6_told 1 = .ok (.ifCond .eq 10, 3) := by decide +kernel
theorem dX6_told_4 : decode cX6_told 4 = .ok (.aload_n 0, 1) := by decide +kernel
theorem dX6_told_5 : decode cX6_told 5 = .ok (.getfield 170, 3) := by decide +kernel
theorem dX6_told_8 : decode cX6_told 8 = .ok (.goto 7, 3) := by decide +kernel
theorem dX6_told_11 : decode cX6_told 11 = .ok (.aload_n 0, 1) := by decide +kernel
theorem dX6_told_12 : decode cX6_told 12 = .ok (.getfield 173, 3) := by decide +kernel
theorem dX6_told_15 : decode cX6_told 15 = .ok (.lreturn, 1) := by decide +kernel
theorem dX6_layTotal_0 : decode cX6_layTotal 0 = .ok (.lconst 0, 1) := by decide +kernel
theorem dX6_layTotal_1 : decode cX6_layTotal 1 = .ok (.lstore_n 1, 1) := by decide +kernel
theorem dX6_layTotal_2 : decode cX6_layTotal 2 = .ok (.iconst 0, 1) := by decide +kernel
theorem dX6_layTotal_3 : decode cX6_layTotal 3 = .ok (.istore_n 3, 1) := by decide +kernel
theorem dX6_layTotal_4 : decode cX6_layTotal 4 = .ok (.iload_n 3, 1) := by decide +kernel
theorem dX6_layTotal_5 : decode cX6_layTotal 5 = .ok (.aload_n 0, 1) := by decide +kernel
theorem dX6_layTotal_6 : decode cX6_layTotal 6 = .ok (.getfield 17, 3) := by decide +kernel
theorem dX6_layTotal_9 : decode cX6_layTotal 9 = .ok (.if_icmp .ge 28, 3) := by decide +kernel
theorem dX6_layTotal_12 : decode cX6_layTotal 12 = .ok (.lload_n 1, 1) := by decide +kernel
theorem dX6_layTotal_13 : decode cX6_layTotal 13 = .ok (.aload_n 0, 1) := by decide +kernel
theorem dX6_layTotal_14 : decode cX6_layTotal 14 = .ok (.aload_n 0, 1) := by decide +kernel
theorem dX6_layTotal_15 : decode cX6_layTotal 15 = .ok (.invokevirtual 155, 3) := by decide +kernel
theorem dX6_layTotal_18 : decode cX6_layTotal 18 = .ok (.iconst 1, 1) := by decide +kernel
theorem dX6_layTotal_19 : decode cX6_layTotal 19 = .ok (.iload_n 3, 1) := by decide +kernel
theorem dX6_layTotal_20 : decode cX6_layTotal 20 = .ok (.ishl, 1) := by decide +kernel
theorem dX6_layTotal_21 : decode cX6_layTotal 21 = .ok (.iconst (-1), 1) := by decide +kernel
theorem dX6_layTotal_22 : decode cX6_layTotal 22 = .ok (.ixor, 1) := by decide +kernel
theorem dX6_layTotal_23 : decode cX6_layTotal 23 = .ok (.iand, 1) := by decide +kernel
theorem dX6_layTotal_24 : decode cX6_layTotal 24 = .ok (.bipush (-9), 2) := by decide +kernel
theorem dX6_layTotal_26 : decode cX6_layTotal 26 = .ok (.invokevirtual 162, 3) := by decide +kernel
theorem dX6_layTotal_29 : decode cX6_layTotal 29 = .ok (.ladd, 1) := by decide +kernel
theorem dX6_layTotal_30 : decode cX6_layTotal 30 = .ok (.lstore_n 1, 1) := by decide +kernel
theorem dX6_layTotal_31 : decode cX6_layTotal 31 = .ok (.iinc 3 1, 3) := by decide +kernel
theorem dX6_layTotal_34 : decode cX6_layTotal 34 = .ok (.goto (-30), 3) := by decide +kernel
theorem dX6_layTotal_37 : decode cX6_layTotal 37 = .ok (.aload_n 0, 1) := by decide +kernel
theorem dX6_layTotal_38 : decode cX6_layTotal 38 = .ok (.lload_n 1, 1) := by decide +kernel
theorem dX6_layTotal_39 : decode cX6_layTotal 39 = .ok (.aload_n 0, 1) := by decide +kernel
theorem dX6_layTotal_40 : decode cX6_layTotal 40 = .ok (.aload_n 0, 1) := by decide +kernel
theorem dX6_layTotal_41 : decode cX6_layTotal 41 = .ok (.invokevirtual 155, 3) := by decide +kernel
theorem dX6_layTotal_44 : decode cX6_layTotal 44 = .ok (.bipush (-9), 2) := by decide +kernel
theorem dX6_layTotal_46 : decode cX6_layTotal 46 = .ok (.invokevirtual 162, 3) := by decide +kernel
theorem dX6_layTotal_49 : decode cX6_layTotal 49 = .ok (.invokevirtual 176, 3) := by decide +kernel
theorem dX6_layTotal_52 : decode cX6_layTotal 52 = .ok (.return_, 1) := by decide +kernel
theorem dX6_laySquares_0 : decode cX6_laySquares 0 = .ok (.aload_n 0, 1) := by decide +kernel
theorem dX6_laySquares_1 : decode cX6_laySquares 1 = .ok (.aload_n 0, 1) := by decide +kernel
theorem dX6_laySquares_2 : decode cX6_laySquares 2 = .ok (.invokevirtual 155, 3) := by decide +kernel
theorem dX6_laySquares_5 : decode cX6_laySquares 5 = .ok (.bipush (-9), 2) := by decide +kernel
theorem dX6_laySquares_7 : decode cX6_laySquares 7 = .ok (.invokevirtual 162, 3) := by decide +kernel
theorem dX6_laySquares_10 : decode cX6_laySquares 10 = .ok (.lstore_n 1, 1) := by decide +kernel
theorem dX6_laySquares_11 : decode cX6_laySquares 11 = .ok (.lload_n 1, 1) := by decide +kernel
theorem dX6_laySquares_12 : decode cX6_laySquares 12 = .ok (.aload_n 0, 1) := by decide +kernel
theorem dX6_laySquares_13 : decode cX6_laySquares 13 = .ok (.getfield 132, 3) := by decide +kernel
theorem dX6_laySquares_16 : decode cX6_laySquares 16 = .ok (.lmul, 1) := by decide +kernel
theorem dX6_laySquares_17 : decode cX6_laySquares 17 = .ok (.lstore_n 3, 1) := by decide +kernel
theorem dX6_laySquares_18 : decode cX6_laySquares 18 = .ok (.iconst 0, 1) := by decide +kernel
theorem dX6_laySquares_19 : decode cX6_laySquares 19 = .ok (.istore 5, 2) := by decide +kernel
theorem dX6_laySquares_21 : decode cX6_laySquares 21 = .ok (.iload 5, 2) := by decide +kernel
theorem dX6_laySquares_23 : decode cX6_laySquares 23 = .ok (.aload_n 0, 1) := by decide +kernel
theorem dX6_laySquares_24 : decode cX6_laySquares 24 = .ok (.getfield 58, 3) := by decide +kernel
theorem dX6_laySquares_27 : decode cX6_laySquares 27 = .ok (.if_icmp .ge 30, 3) := by decide +kernel
theorem dX6_laySquares_30 : decode cX6_laySquares 30 = .ok (.lload_n 3, 1) := by decide +kernel
theorem dX6_laySquares_31 : decode cX6_laySquares 31 = .ok (.aload_n 0, 1) := by decide +kernel
theorem dX6_laySquares_32 : decode cX6_laySquares 32 = .ok (.aload_n 0, 1) := by decide +kernel
theorem dX6_laySquares_33 : decode cX6_laySquares 33 = .ok (.invokevirtual 155, 3) := by decide +kernel
theorem dX6_laySquares_36 : decode cX6_laySquares 36 = .ok (.iload 5, 2) := by decide +kernel
theorem dX6_laySquares_38 : decode cX6_laySquares 38 = .ok (.invokevirtual 162, 3) := by decide +kernel
theorem dX6_laySquares_41 : decode cX6_laySquares 41 = .ok (.aload_n 0, 1) := by decide +kernel
theorem dX6_laySquares_42 : decode cX6_laySquares 42 = .ok (.getfield 46, 3) := by decide +kernel
theorem dX6_laySquares_45 : decode cX6_laySquares 45 = .ok (.iload 5, 2) := by decide +kernel
theorem dX6_laySquares_47 : decode cX6_laySquares 47 = .ok (.laload, 1) := by decide +kernel
theorem dX6_laySquares_48 : decode cX6_laySquares 48 = .ok (.lmul, 1) := by decide +kernel
theorem dX6_laySquares_49 : decode cX6_laySquares 49 = .ok (.lsub, 1) := by decide +kernel
theorem dX6_laySquares_50 : decode cX6_laySquares 50 = .ok (.lstore_n 3, 1) := by decide +kernel
theorem dX6_laySquares_51 : decode cX6_laySquares 51 = .ok (.iinc 5 1, 3) := by decide +kernel
theorem dX6_laySquares_54 : decode cX6_laySquares 54 = .ok (.goto (-33), 3) := by decide +kernel
end
section
theorem dX6_laySquares_57 : decode cX6_laySquares 57 = .ok (.aload_n 0, 1) := by decide +kernel
theorem dX6_laySquares_58 : decode cX6_laySquares 58 = .ok (.lload_n 3, 1) := by decide +kernel
theorem dX6_laySquares_59 : decode cX6_laySquares 59 = .ok (.lload_n 1, 1) := by decide +kernel
theorem dX6_laySquares_60 : decode cX6_laySquares 60 = .ok (.invokevirtual 176, 3) := by decide +kernel
theorem dX6_laySquares_63 : decode cX6_laySquares 63 = .ok (.return_, 1) := by decide +kernel
theorem dX6_rank_0 : decode cX6_rank 0 = .ok (.aload_n 0, 1) := by decide +kernel
theorem dX6_rank_1 : decode cX6_rank 1 = .ok (.iconst 0, 1) := by decide +kernel
theorem dX6_rank_2 : decode cX6_rank 2 = .ok (.putfield 1, 3) := by decide +kernel
theorem dX6_rank_5 : decode cX6_rank 5 = .ok (.aload_n 0, 1) := by decide +kernel
theorem dX6_rank_6 : decode cX6_rank 6 = .ok (.aload_n 0, 1) := by decide +kernel
theorem dX6_rank_7 : decode cX6_rank 7 = .ok (.getfield 23, 3) := by decide +kernel
theorem dX6_rank_10 : decode cX6_rank 10 = .ok (.aload_n 0, 1) := by decide +kernel
theorem dX6_rank_11 : decode cX6_rank 11 = .ok (.getfield 23, 3) := by decide +kernel
theorem dX6_rank_14 : decode cX6_rank 14 = .ok (.invokestatic 180, 3) := by decide +kernel
theorem dX6_rank_17 : decode cX6_rank 17 = .ok (.iload_n 1, 1) := by decide +kernel
theorem dX6_rank_18 : decode cX6_rank 18 = .ok (.invokevirtual 184, 3) := by decide +kernel
theorem dX6_rank_21 : decode cX6_rank 21 = .ok (.ireturn, 1) := by decide +kernel
theorem dX6_noColumn_0 : decode cX6_noColumn 0 = .ok (.iload_n 1, 1) := by decide +kernel
theorem dX6_noColumn_1 : decode cX6_noColumn 1 = .ok (.i2l, 1) := by decide +kernel
theorem dX6_noColumn_2 : decode cX6_noColumn 2 = .ok (.lconst 0, 1) := by decide +kernel
theorem dX6_noColumn_3 : decode cX6_noColumn 3 = .ok (.iload_n 2, 1) := by decide +kernel
theorem dX6_noColumn_4 : decode cX6_noColumn 4 = .ok (.ifCond .eq 11, 3) := by decide +kernel
theorem dX6_noColumn_7 : decode cX6_noColumn 7 = .ok (.aload_n 0, 1) := by decide +kernel
theorem dX6_noColumn_8 : decode cX6_noColumn 8 = .ok (.getfield 17, 3) := by decide +kernel
theorem dX6_noColumn_11 : decode cX6_noColumn 11 = .ok (.i2l, 1) := by decide +kernel
theorem dX6_noColumn_12 : decode cX6_noColumn 12 = .ok (.goto 10, 3) := by decide +kernel
theorem dX6_noColumn_15 : decode cX6_noColumn 15 = .ok (.aload_n 0, 1) := by decide +kernel
theorem dX6_noColumn_16 : decode cX6_noColumn 16 = .ok (.getfield 17, 3) := by decide +kernel
theorem dX6_noColumn_19 : decode cX6_noColumn 19 = .ok (.iconst 1, 1) := by decide +kernel
theorem dX6_noColumn_20 : decode cX6_noColumn 20 = .ok (.isub, 1) := by decide +kernel
theorem dX6_noColumn_21 : decode cX6_noColumn 21 = .ok (.i2l, 1) := by decide +kernel
theorem dX6_noColumn_22 : decode cX6_noColumn 22 = .ok (.invokestatic 61, 3) := by decide +kernel
theorem dX6_noColumn_25 : decode cX6_noColumn 25 = .ok (.ifCond .ne 7, 3) := by decide +kernel
theorem dX6_noColumn_28 : decode cX6_noColumn 28 = .ok (.iconst 1, 1) := by decide +kernel
theorem dX6_noColumn_29 : decode cX6_noColumn 29 = .ok (.goto 4, 3) := by decide +kernel
theorem dX6_noColumn_32 : decode cX6_noColumn 32 = .ok (.iconst 0, 1) := by decide +kernel
theorem dX6_noColumn_33 : decode cX6_noColumn 33 = .ok (.ireturn, 1) := by decide +kernel
theorem dX6_value_0 : decode cX6_value 0 = .ok (.aload_n 0, 1) := by decide +kernel
theorem dX6_value_1 : decode cX6_value 1 = .ok (.iconst 0, 1) := by decide +kernel
theorem dX6_value_2 : decode cX6_value 2 = .ok (.putfield 1, 3) := by decide +kernel
theorem dX6_value_5 : decode cX6_value 5 = .ok (.aload_n 0, 1) := by decide +kernel
theorem dX6_value_6 : decode cX6_value 6 = .ok (.iload_n 1, 1) := by decide +kernel
theorem dX6_value_7 : decode cX6_value 7 = .ok (.iload_n 2, 1) := by decide +kernel
theorem dX6_value_8 : decode cX6_value 8 = .ok (.invokevirtual 188, 3) := by decide +kernel
theorem dX6_value_11 : decode cX6_value 11 = .ok (.ifCond .eq 7, 3) := by decide +kernel
theorem dX6_value_14 : decode cX6_value 14 = .ok (.ldc2_w 192, 3) := by decide +kernel
theorem dX6_value_17 : decode cX6_value 17 = .ok (.lreturn, 1) := by decide +kernel
theorem dX6_value_18 : decode cX6_value 18 = .ok (.aload_n 0, 1) := by decide +kernel
theorem dX6_value_19 : decode cX6_value 19 = .ok (.aload_n 0, 1) := by decide +kernel
theorem dX6_value_20 : decode cX6_value 20 = .ok (.getfield 23, 3) := by decide +kernel
theorem dX6_value_23 : decode cX6_value 23 = .ok (.aload_n 0, 1) := by decide +kernel
theorem dX6_value_24 : decode cX6_value 24 = .ok (.getfield 23, 3) := by decide +kernel
theorem dX6_value_27 : decode cX6_value 27 = .ok (.invokestatic 180, 3) := by decide +kernel
theorem dX6_value_30 : decode cX6_value 30 = .ok (.iload_n 2, 1) := by decide +kernel
theorem dX6_value_31 : decode cX6_value 31 = .ok (.invokevirtual 194, 3) := by decide +kernel
theorem dX6_value_34 : decode cX6_value 34 = .ok (.ifCond .ne 7, 3) := by decide +kernel
theorem dX6_value_37 : decode cX6_value 37 = .ok (.ldc2_w 198, 3) := by decide +kernel
theorem dX6_value_40 : decode cX6_value 40 = .ok (.lreturn, 1) := by decide +kernel
theorem dX6_value_41 : decode cX6_value 41 = .ok (.aload_n 0, 1) := by decide +kernel
theorem dX6_value_42 : decode cX6_value 42 = .ok (.aload_n 0, 1) := by decide +kernel
theorem dX6_value_43 : decode cX6_value 43 = .ok (.aload_n 0, 1) := by decide +kernel
theorem dX6_value_44 : decode cX6_value 44 = .ok (.invokevirtual 155, 3) := by decide +kernel
theorem dX6_value_47 : decode cX6_value 47 = .ok (.iload_n 1, 1) := by decide +kernel
theorem dX6_value_48 : decode cX6_value 48 = .ok (.invokevirtual 162, 3) := by decide +kernel
theorem dX6_value_51 : decode cX6_value 51 = .ok (.aload_n 0, 1) := by decide +kernel
theorem dX6_value_52 : decode cX6_value 52 = .ok (.aload_n 0, 1) := by decide +kernel
theorem dX6_value_53 : decode cX6_value 53 = .ok (.invokevirtual 155, 3) := by decide +kernel
theorem dX6_value_56 : decode cX6_value 56 = .ok (.bipush (-9), 2) := by decide +kernel
theorem dX6_value_58 : decode cX6_value 58 = .ok (.invokevirtual 162, 3) := by decide +kernel
theorem dX6_value_61 : decode cX6_value 61 = .ok (.invokevirtual 176, 3) := by decide +kernel
theorem dX6_value_64 : decode cX6_value 64 = .ok (.aload_n 0, 1) := by decide +kernel
theorem dX6_value_65 : decode cX6_value 65 = .ok (.iload_n 3, 1) := by decide +kernel
theorem dX6_value_66 : decode cX6_value 66 = .ok (.invokevirtual 200, 3) := by decide +kernel
theorem dX6_value_69 : decode cX6_value 69 = .ok (.lreturn, 1) := by decide +kernel
theorem dX6_spread_0 : decode cX6_spread 0 = .ok (.aload_n 0, 1) := by decide +kernel
theorem dX6_spread_1 : decode cX6_spread 1 = .ok (.iconst 0, 1) := by decide +kernel
theorem dX6_spread_2 : decode cX6_spread 2 = .ok (.putfield 1, 3) := by decide +kernel
theorem dX6_spread_5 : decode cX6_spread 5 = .ok (.aload_n 0, 1) := by decide +kernel
theorem dX6_spread_6 : decode cX6_spread 6 = .ok (.iload_n 1, 1) := by decide +kernel
theorem dX6_spread_7 : decode cX6_spread 7 = .ok (.iload_n 2, 1) := by decide +kernel
theorem dX6_spread_8 : decode cX6_spread 8 = .ok (.invokevirtual 188, 3) := by decide +kernel
theorem dX6_spread_11 : decode cX6_spread 11 = .ok (.ifCond .eq 7, 3) := by decide +kernel
theorem dX6_spread_14 : decode cX6_spread 14 = .ok (.ldc2_w 192, 3) := by decide +kernel
theorem dX6_spread_17 : decode cX6_spread 17 = .ok (.lreturn, 1) := by decide +kernel
theorem dX6_spread_18 : decode cX6_spread 18 = .ok (.aload_n 0, 1) := by decide +kernel
theorem dX6_spread_19 : decode cX6_spread 19 = .ok (.aload_n 0, 1) := by decide +kernel
theorem dX6_spread_20 : decode cX6_spread 20 = .ok (.getfield 23, 3) := by decide +kernel
theorem dX6_spread_23 : decode cX6_spread 23 = .ok (.aload_n 0, 1) := by decide +kernel
theorem dX6_spread_24 : decode cX6_spread 24 = .ok (.getfield 23, 3) := by decide +kernel
theorem dX6_spread_27 : decode cX6_spread 27 = .ok (.invokestatic 180, 3) := by decide +kernel
theorem dX6_spread_30 : decode cX6_spread 30 = .ok (.iload_n 2, 1) := by decide +kernel
theorem dX6_spread_31 : decode cX6_spread 31 = .ok (.invokevirtual 194, 3) := by decide +kernel
theorem dX6_spread_34 : decode cX6_spread 34 = .ok (.ifCond .ne 7, 3) := by decide +kernel
theorem dX6_spread_37 : decode cX6_spread 37 = .ok (.ldc2_w 198, 3) := by decide +kernel
theorem dX6_spread_40 : decode cX6_spread 40 = .ok (.lreturn, 1) := by decide +kernel
theorem dX6_spread_41 : decode cX6_spread 41 = .ok (.aload_n 0, 1) := by decide +kernel
theorem dX6_spread_42 : decode cX6_spread 42 = .ok (.aload_n 0, 1) := by decide +kernel
theorem dX6_spread_43 : decode cX6_spread 43 = .ok (.aload_n 0, 1) := by decide +kernel
theorem dX6_spread_44 : decode cX6_spread 44 = .ok (.invokevirtual 155, 3) := by decide +kernel
theorem dX6_spread_47 : decode cX6_spread 47 = .ok (.iconst 1, 1) := by decide +kernel
theorem dX6_spread_48 : decode cX6_spread 48 = .ok (.iload_n 1, 1) := by decide +kernel
theorem dX6_spread_49 : decode cX6_spread 49 = .ok (.ishl, 1) := by decide +kernel
theorem dX6_spread_50 : decode cX6_spread 50 = .ok (.iconst (-1), 1) := by decide +kernel
theorem dX6_spread_51 : decode cX6_spread 51 = .ok (.ixor, 1) := by decide +kernel
theorem dX6_spread_52 : decode cX6_spread 52 = .ok (.iand, 1) := by decide +kernel
theorem dX6_spread_53 : decode cX6_spread 53 = .ok (.bipush (-9), 2) := by decide +kernel
theorem dX6_spread_55 : decode cX6_spread 55 = .ok (.invokevirtual 162, 3) := by decide +kernel
theorem dX6_spread_58 : decode cX6_spread 58 = .ok (.aload_n 0, 1) := by decide +kernel
theorem dX6_spread_59 : decode cX6_spread 59 = .ok (.aload_n 0, 1) := by decide +kernel
theorem dX6_spread_60 : decode cX6_spread 60 = .ok (.invokevirtual 155, 3) := by decide +kernel
theorem dX6_spread_63 : decode cX6_spread 63 = .ok (.bipush (-9), 2) := by decide +kernel
theorem dX6_spread_65 : decode cX6_spread 65 = .ok (.invokevirtual 162, 3) := by decide +kernel
theorem dX6_spread_68 : decode cX6_spread 68 = .ok (.invokevirtual 176, 3) := by decide +kernel
theorem dX6_spread_71 : decode cX6_spread 71 = .ok (.aload_n 0, 1) := by decide +kernel
theorem dX6_spread_72 : decode cX6_spread 72 = .ok (.iload_n 3, 1) := by decide +kernel
theorem dX6_spread_73 : decode cX6_spread 73 = .ok (.invokevirtual 200, 3) := by decide +kernel
theorem dX6_spread_76 : decode cX6_spread 76 = .ok (.lreturn, 1) := by decide +kernel
theorem dX6_total_0 : decode cX6_total 0 = .ok (.aload_n 0, 1) := by decide +kernel
theorem dX6_total_1 : decode cX6_total 1 = .ok (.iconst 0, 1) := by decide +kernel
theorem dX6_total_2 : decode cX6_total 2 = .ok (.putfield 1, 3) := by decide +kernel
theorem dX6_total_5 : decode cX6_total 5 = .ok (.aload_n 0, 1) := by decide +kernel
theorem dX6_total_6 : decode cX6_total 6 = .ok (.aload_n 0, 1) := by decide +kernel
theorem dX6_total_7 : decode cX6_total 7 = .ok (.getfield 23, 3) := by decide +kernel
theorem dX6_total_10 : decode cX6_total 10 = .ok (.aload_n 0, 1) := by decide +kernel
theorem dX6_total_11 : decode cX6_total 11 = .ok (.getfield 23, 3) := by decide +kernel
theorem dX6_total_14 : decode cX6_total 14 = .ok (.invokestatic 180, 3) := by decide +kernel
theorem dX6_total_17 : decode cX6_total 17 = .ok (.iload_n 1, 1) := by decide +kernel
theorem dX6_total_18 : decode cX6_total 18 = .ok (.invokevirtual 194, 3) := by decide +kernel
theorem dX6_total_21 : decode cX6_total 21 = .ok (.ifCond .ne 7, 3) := by decide +kernel
theorem dX6_total_24 : decode cX6_total 24 = .ok (.ldc2_w 198, 3) := by decide +kernel
theorem dX6_total_27 : decode cX6_total 27 = .ok (.lreturn, 1) := by decide +kernel
theorem dX6_total_28 : decode cX6_total 28 = .ok (.aload_n 0, 1) := by decide +kernel
theorem dX6_total_29 : decode cX6_total 29 = .ok (.invokevirtual 204, 3) := by decide +kernel
theorem dX6_total_32 : decode cX6_total 32 = .ok (.aload_n 0, 1) := by decide +kernel
theorem dX6_total_33 : decode cX6_total 33 = .ok (.iload_n 2, 1) := by decide +kernel
theorem dX6_total_34 : decode cX6_total 34 = .ok (.invokevirtual 200, 3) := by decide +kernel
theorem dX6_total_37 : decode cX6_total 37 = .ok (.lreturn, 1) := by decide +kernel
theorem dX6_rest_0 : decode cX6_rest 0 = .ok (.aload_n 0, 1) := by decide +kernel
theorem dX6_rest_1 : decode cX6_rest 1 = .ok (.iconst 0, 1) := by decide +kernel
theorem dX6_rest_2 : decode cX6_rest 2 = .ok (.putfield 1, 3) := by decide +kernel
theorem dX6_rest_5 : decode cX6_rest 5 = .ok (.aload_n 0, 1) := by decide +kernel
theorem dX6_rest_6 : decode cX6_rest 6 = .ok (.iload_n 1, 1) := by decide +kernel
theorem dX6_rest_7 : decode cX6_rest 7 = .ok (.invokevirtual 102, 3) := by decide +kernel
theorem dX6_rest_10 : decode cX6_rest 10 = .ok (.ifCond .eq 7, 3) := by decide +kernel
theorem dX6_rest_13 : decode cX6_rest 13 = .ok (.ldc2_w 192, 3) := by decide +kernel
theorem dX6_rest_16 : decode cX6_rest 16 = .ok (.lreturn, 1) := by decide +kernel
theorem dX6_rest_17 : decode cX6_rest 17 = .ok (.aload_n 0, 1) := by decide +kernel
theorem dX6_rest_18 : decode cX6_rest 18 = .ok (.aload_n 0, 1) := by decide +kernel
theorem dX6_rest_19 : decode cX6_rest 19 = .ok (.getfield 23, 3) := by decide +kernel
theorem dX6_rest_22 : decode cX6_rest 22 = .ok (.aload_n 0, 1) := by decide +kernel
theorem dX6_rest_23 : decode cX6_rest 23 = .ok (.getfield 23, 3) := by decide +kernel
theorem dX6_rest_26 : decode cX6_rest 26 = .ok (.invokestatic 180, 3) := by decide +kernel
theorem dX6_rest_29 : decode cX6_rest 29 = .ok (.iload_n 2, 1) := by decide +kernel
theorem dX6_rest_30 : decode cX6_rest 30 = .ok (.invokevirtual 194, 3) := by decide +kernel
theorem dX6_rest_33 : decode cX6_rest 33 = .ok (.ifCond .ne 7, 3) := by decide +kernel
theorem dX6_rest_36 : decode cX6_rest 36 = .ok (.ldc2_w 198, 3) := by decide +kernel
theorem dX6_rest_39 : decode cX6_rest 39 = .ok (.lreturn, 1) := by decide +kernel
theorem dX6_rest_40 : decode cX6_rest 40 = .ok (.aload_n 0, 1) := by decide +kernel
theorem dX6_rest_41 : decode cX6_rest 41 = .ok (.aload_n 0, 1) := by decide +kernel
theorem dX6_rest_42 : decode cX6_rest 42 = .ok (.invokevirtual 155, 3) := by decide +kernel
theorem dX6_rest_45 : decode cX6_rest 45 = .ok (.bipush (-9), 2) := by decide +kernel
theorem dX6_rest_47 : decode cX6_rest 47 = .ok (.invokevirtual 162, 3) := by decide +kernel
theorem dX6_rest_50 : decode cX6_rest 50 = .ok (.lstore 4, 2) := by decide +kernel
theorem dX6_rest_52 : decode cX6_rest 52 = .ok (.lload 4, 2) := by decide +kernel
theorem dX6_rest_54 : decode cX6_rest 54 = .ok (.aload_n 0, 1) := by decide +kernel
theorem dX6_rest_55 : decode cX6_rest 55 = .ok (.getfield 23, 3) := by decide +kernel
theorem dX6_rest_58 : decode cX6_rest 58 = .ok (.iload_n 1, 1) := by decide +kernel
theorem dX6_rest_59 : decode cX6_rest 59 = .ok (.aload_n 0, 1) := by decide +kernel
theorem dX6_rest_60 : decode cX6_rest 60 = .ok (.aload_n 0, 1) := by decide +kernel
theorem dX6_rest_61 : decode cX6_rest 61 = .ok (.getfield 23, 3) := by decide +kernel
theorem dX6_rest_64 : decode cX6_rest 64 = .ok (.iconst 2, 1) := by decide +kernel
theorem dX6_rest_65 : decode cX6_rest 65 = .ok (.iload_n 1, 1) := by decide +kernel
theorem dX6_rest_66 : decode cX6_rest 66 = .ok (.iadd, 1) := by decide +kernel
theorem dX6_rest_67 : decode cX6_rest 67 = .ok (.iaload, 1) := by decide +kernel
theorem dX6_rest_68 : decode cX6_rest 68 = .ok (.iconst 0, 1) := by decide +kernel
theorem dX6_rest_69 : decode cX6_rest 69 = .ok (.invokevirtual 129, 3) := by decide +kernel
theorem dX6_rest_72 : decode cX6_rest 72 = .ok (.invokestatic 144, 3) := by decide +kernel
theorem dX6_rest_75 : decode cX6_rest 75 = .ok (.i2l, 1) := by decide +kernel
theorem dX6_rest_76 : decode cX6_rest 76 = .ok (.lmul, 1) := by decide +kernel
theorem dX6_rest_77 : decode cX6_rest 77 = .ok (.lstore 6, 2) := by decide +kernel
theorem dX6_rest_79 : decode cX6_rest 79 = .ok (.aload_n 0, 1) := by decide +kernel
theorem dX6_rest_80 : decode cX6_rest 80 = .ok (.aload_n 0, 1) := by decide +kernel
theorem dX6_rest_81 : decode cX6_rest 81 = .ok (.getfield 23, 3) := by decide +kernel
theorem dX6_rest_84 : decode cX6_rest 84 = .ok (.iload_n 1, 1) := by decide +kernel
theorem dX6_rest_85 : decode cX6_rest 85 = .ok (.iload_n 2, 1) := by decide +kernel
theorem dX6_rest_86 : decode cX6_rest 86 = .ok (.invokevirtual 140, 3) := by decide +kernel
theorem dX6_rest_89 : decode cX6_rest 89 = .ok (.iconst 0, 1) := by decide +kernel
theorem dX6_rest_90 : decode cX6_rest 90 = .ok (.istore 8, 2) := by decide +kernel
theorem dX6_rest_92 : decode cX6_rest 92 = .ok (.iload 8, 2) := by decide +kernel
theorem dX6_rest_94 : decode cX6_rest 94 = .ok (.aload_n 0, 1) := by decide +kernel
theorem dX6_rest_95 : decode cX6_rest 95 = .ok (.getfield 58, 3) := by decide +kernel
theorem dX6_rest_98 : decode cX6_rest 98 = .ok (.if_icmp .ge 33, 3) := by decide +kernel
theorem dX6_rest_101 : decode cX6_rest 101 = .ok (.lload 6, 2) := by decide +kernel
theorem dX6_rest_103 : decode cX6_rest 103 = .ok (.aload_n 0, 1) := by decide +kernel
theorem dX6_rest_104 : decode cX6_rest 104 = .ok (.getfield 55, 3) := by decide +kernel
theorem dX6_rest_107 : decode cX6_rest 107 = .ok (.iload 8, 2) := by decide +kernel
theorem dX6_rest_109 : decode cX6_rest 109 = .ok (.iaload, 1) := by decide +kernel
theorem dX6_rest_110 : decode cX6_rest 110 = .ok (.i2l, 1) := by decide +kernel
theorem dX6_rest_111 : decode cX6_rest 111 = .ok (.aload_n 0, 1) := by decide +kernel
theorem dX6_rest_112 : decode cX6_rest 112 = .ok (.aload_n 0, 1) := by decide +kernel
theorem dX6_rest_113 : decode cX6_rest 113 = .ok (.invokevirtual 155, 3) := by decide +kernel
theorem dX6_rest_116 : decode cX6_rest 116 = .ok (.iload 8, 2) := by decide +kernel
theorem dX6_rest_118 : decode cX6_rest 118 = .ok (.invokevirtual 162, 3) := by decide +kernel
theorem dX6_rest_121 : decode cX6_rest 121 = .ok (.lmul, 1) := by decide +kernel
theorem dX6_rest_122 : decode cX6_rest 122 = .ok (.lsub, 1) := by decide +kernel
theorem dX6_rest_123 : decode cX6_rest 123 = .ok (.lstore 6, 2) := by decide +kernel
theorem dX6_rest_125 : decode cX6_rest 125 = .ok (.iinc 8 1, 3) := by decide +kernel
theorem dX6_rest_128 : decode cX6_rest 128 = .ok (.goto (-36), 3) := by decide +kernel
theorem dX6_rest_131 : decode cX6_rest 131 = .ok (.aload_n 0, 1) := by decide +kernel
theorem dX6_rest_132 : decode cX6_rest 132 = .ok (.lload 6, 2) := by decide +kernel
theorem dX6_rest_134 : decode cX6_rest 134 = .ok (.lload 4, 2) := by decide +kernel
theorem dX6_rest_136 : decode cX6_rest 136 = .ok (.invokevirtual 176, 3) := by decide +kernel
theorem dX6_rest_139 : decode cX6_rest 139 = .ok (.aload_n 0, 1) := by decide +kernel
theorem dX6_rest_140 : decode cX6_rest 140 = .ok (.iload_n 3, 1) := by decide +kernel
theorem dX6_rest_141 : decode cX6_rest 141 = .ok (.invokevirtual 200, 3) := by decide +kernel
theorem dX6_rest_144 : decode cX6_rest 144 = .ok (.lreturn, 1) := by decide +kernel
theorem dX6_squares_0 : decode cX6_squares 0 = .ok (.aload_n 0, 1) := by decide +kernel
theorem dX6_squares_1 : decode cX6_squares 1 = .ok (.iconst 0, 1) := by decide +kernel
theorem dX6_squares_2 : decode cX6_squares 2 = .ok (.putfield 1, 3) := by decide +kernel
theorem dX6_squares_5 : decode cX6_squares 5 = .ok (.aload_n 0, 1) := by decide +kernel
theorem dX6_squares_6 : decode cX6_squares 6 = .ok (.aload_n 0, 1) := by decide +kernel
theorem dX6_squares_7 : decode cX6_squares 7 = .ok (.getfield 23, 3) := by decide +kernel
theorem dX6_squares_10 : decode cX6_squares 10 = .ok (.aload_n 0, 1) := by decide +kernel
theorem dX6_squares_11 : decode cX6_squares 11 = .ok (.getfield 23, 3) := by decide +kernel
theorem dX6_squares_14 : decode cX6_squares 14 = .ok (.invokestatic 180, 3) := by decide +kernel
theorem dX6_squares_17 : decode cX6_squares 17 = .ok (.iload_n 1, 1) := by decide +kernel
theorem dX6_squares_18 : decode cX6_squares 18 = .ok (.invokevirtual 194, 3) := by decide +kernel
theorem dX6_squares_21 : decode cX6_squares 21 = .ok (.ifCond .ne 7, 3) := by decide +kernel
theorem dX6_squares_24 : decode cX6_squares 24 = .ok (.ldc2_w 198, 3) := by decide +kernel
theorem dX6_squares_27 : decode cX6_squares 27 = .ok (.lreturn, 1) := by decide +kernel
theorem dX6_squares_28 : decode cX6_squares 28 = .ok (.aload_n 0, 1) := by decide +kernel
theorem dX6_squares_29 : decode cX6_squares 29 = .ok (.invokevirtual 207, 3) := by decide +kernel
theorem dX6_squares_32 : decode cX6_squares 32 = .ok (.aload_n 0, 1) := by decide +kernel
theorem dX6_squares_33 : decode cX6_squares 33 = .ok (.iload_n 2, 1) := by decide +kernel
theorem dX6_squares_34 : decode cX6_squares 34 = .ok (.invokevirtual 200, 3) := by decide +kernel
theorem dX6_squares_37 : decode cX6_squares 37 = .ok (.lreturn, 1) := by decide +kernel
theorem dX6_next_0 : decode cX6_next 0 = .ok (.aload_n 0, 1) := by decide +kernel
theorem dX6_next_1 : decode cX6_next 1 = .ok (.iconst 0, 1) := by decide +kernel
theorem dX6_next_2 : decode cX6_next 2 = .ok (.putfield 1, 3) := by decide +kernel
theorem dX6_next_5 : decode cX6_next 5 = .ok (.aload_n 0, 1) := by decide +kernel
theorem dX6_next_6 : decode cX6_next 6 = .ok (.getfield 23, 3) := by decide +kernel
theorem dX6_next_9 : decode cX6_next 9 = .ok (.iconst 1, 1) := by decide +kernel
theorem dX6_next_10 : decode cX6_next 10 = .ok (.iaload, 1) := by decide +kernel
theorem dX6_next_11 : decode cX6_next 11 = .ok (.bipush 8, 2) := by decide +kernel
theorem dX6_next_13 : decode cX6_next 13 = .ok (.if_icmp .ne 6, 3) := by decide +kernel
theorem dX6_next_16 : decode cX6_next 16 = .ok (.bipush (-4), 2) := by decide +kernel
theorem dX6_next_18 : decode cX6_next 18 = .ok (.ireturn, 1) := by decide +kernel
theorem dX6_next_19 : decode cX6_next 19 = .ok (.bipush (-9), 2) := by decide +kernel
theorem dX6_next_21 : decode cX6_next 21 = .ok (.istore_n 2, 1) := by decide +kernel
theorem dX6_next_22 : decode cX6_next 22 = .ok (.lconst 0, 1) := by decide +kernel
theorem dX6_next_23 : decode cX6_next 23 = .ok (.lstore_n 3, 1) := by decide +kernel
theorem dX6_next_24 : decode cX6_next 24 = .ok (.lconst 1, 1) := by decide +kernel
theorem dX6_next_25 : decode cX6_next 25 = .ok (.lstore 5, 2) := by decide +kernel
theorem dX6_next_27 : decode cX6_next 27 = .ok (.iconst 0, 1) := by decide +kernel
theorem dX6_next_28 : decode cX6_next 28 = .ok (.istore 7, 2) := by decide +kernel
theorem dX6_next_30 : decode cX6_next 30 = .ok (.iload 7, 2) := by decide +kernel
theorem dX6_next_32 : decode cX6_next 32 = .ok (.iconst 3, 1) := by decide +kernel
theorem dX6_next_33 : decode cX6_next 33 = .ok (.aload_n 0, 1) := by decide +kernel
theorem dX6_next_34 : decode cX6_next 34 = .ok (.getfield 17, 3) := by decide +kernel
theorem dX6_next_37 : decode cX6_next 37 = .ok (.iconst 1, 1) := by decide +kernel
theorem dX6_next_38 : decode cX6_next 38 = .ok (.iadd, 1) := by decide +kernel
theorem dX6_next_39 : decode cX6_next 39 = .ok (.invokestatic 106, 3) := by decide +kernel
theorem dX6_next_42 : decode cX6_next 42 = .ok (.if_icmp .ge 165, 3) := by decide +kernel
theorem dX6_next_45 : decode cX6_next 45 = .ok (.iconst 0, 1) := by decide +kernel
theorem dX6_next_46 : decode cX6_next 46 = .ok (.istore 8, 2) := by decide +kernel
theorem dX6_next_48 : decode cX6_next 48 = .ok (.iconst 0, 1) := by decide +kernel
theorem dX6_next_49 : decode cX6_next 49 = .ok (.istore 9, 2) := by decide +kernel
theorem dX6_next_51 : decode cX6_next 51 = .ok (.iload 9, 2) := by decide +kernel
theorem dX6_next_53 : decode cX6_next 53 = .ok (.aload_n 0, 1) := by decide +kernel
theorem dX6_next_54 : decode cX6_next 54 = .ok (.getfield 17, 3) := by decide +kernel
theorem dX6_next_57 : decode cX6_next 57 = .ok (.if_icmp .gt 33, 3) := by decide +kernel
theorem dX6_next_60 : decode cX6_next 60 = .ok (.iload 8, 2) := by decide +kernel
theorem dX6_next_62 : decode cX6_next 62 = .ok (.iload 7, 2) := by decide +kernel
theorem dX6_next_64 : decode cX6_next 64 = .ok (.iconst 3, 1) := by decide +kernel
theorem dX6_next_65 : decode cX6_next 65 = .ok (.iload 9, 2) := by decide +kernel
theorem dX6_next_67 : decode cX6_next 67 = .ok (.invokestatic 106, 3) := by decide +kernel
theorem dX6_next_70 : decode cX6_next 70 = .ok (.idiv, 1) := by decide +kernel
theorem dX6_next_71 : decode cX6_next 71 = .ok (.iconst 3, 1) := by decide +kernel
theorem dX6_next_72 : decode cX6_next 72 = .ok (.irem, 1) := by decide +kernel
theorem dX6_next_73 : decode cX6_next 73 = .ok (.bipush 10, 2) := by decide +kernel
theorem dX6_next_75 : decode cX6_next 75 = .ok (.iload 9, 2) := by decide +kernel
theorem dX6_next_77 : decode cX6_next 77 = .ok (.invokestatic 106, 3) := by decide +kernel
theorem dX6_next_80 : decode cX6_next 80 = .ok (.imul, 1) := by decide +kernel
theorem dX6_next_81 : decode cX6_next 81 = .ok (.iadd, 1) := by decide +kernel
theorem dX6_next_82 : decode cX6_next 82 = .ok (.istore 8, 2) := by decide +kernel
theorem dX6_next_84 : decode cX6_next 84 = .ok (.iinc 9 1, 3) := by decide +kernel
theorem dX6_next_87 : decode cX6_next 87 = .ok (.goto (-36), 3) := by decide +kernel
theorem dX6_next_90 : decode cX6_next 90 = .ok (.aload_n 0, 1) := by decide +kernel
theorem dX6_next_91 : decode cX6_next 91 = .ok (.getfield 23, 3) := by decide +kernel
theorem dX6_next_94 : decode cX6_next 94 = .ok (.aload_n 0, 1) := by decide +kernel
theorem dX6_next_95 : decode cX6_next 95 = .ok (.getfield 26, 3) := by decide +kernel
theorem dX6_next_98 : decode cX6_next 98 = .ok (.invokestatic 95, 3) := by decide +kernel
theorem dX6_next_101 : decode cX6_next 101 = .ok (.aload_n 0, 1) := by decide +kernel
theorem dX6_next_102 : decode cX6_next 102 = .ok (.getfield 26, 3) := by decide +kernel
theorem dX6_next_105 : decode cX6_next 105 = .ok (.iconst 2, 1) := by decide +kernel
theorem dX6_next_106 : decode cX6_next 106 = .ok (.aload_n 0, 1) := by decide +kernel
theorem dX6_next_107 : decode cX6_next 107 = .ok (.getfield 26, 3) := by decide +kernel
theorem dX6_next_110 : decode cX6_next 110 = .ok (.iconst 1, 1) := by decide +kernel
theorem dX6_next_111 : decode cX6_next 111 = .ok (.iaload, 1) := by decide +kernel
theorem dX6_next_112 : decode cX6_next 112 = .ok (.iadd, 1) := by decide +kernel
theorem dX6_next_113 : decode cX6_next 113 = .ok (.iload 8, 2) := by decide +kernel
theorem dX6_next_115 : decode cX6_next 115 = .ok (.iastore, 1) := by decide +kernel
theorem dX6_next_116 : decode cX6_next 116 = .ok (.aload_n 0, 1) := by decide +kernel
theorem dX6_next_117 : decode cX6_next 117 = .ok (.getfield 26, 3) := by decide +kernel
theorem dX6_next_120 : decode cX6_next 120 = .ok (.bipush 10, 2) := by decide +kernel
theorem dX6_next_122 : decode cX6_next 122 = .ok (.aload_n 0, 1) := by decide +kernel
theorem dX6_next_123 : decode cX6_next 123 = .ok (.getfield 26, 3) := by decide +kernel
theorem dX6_next_126 : decode cX6_next 126 = .ok (.iconst 1, 1) := by decide +kernel
theorem dX6_next_127 : decode cX6_next 127 = .ok (.iaload, 1) := by decide +kernel
theorem dX6_next_128 : decode cX6_next 128 = .ok (.iadd, 1) := by decide +kernel
theorem dX6_next_129 : decode cX6_next 129 = .ok (.iconst 0, 1) := by decide +kernel
theorem dX6_next_130 : decode cX6_next 130 = .ok (.iastore, 1) := by decide +kernel
theorem dX6_next_131 : decode cX6_next 131 = .ok (.aload_n 0, 1) := by decide +kernel
theorem dX6_next_132 : decode cX6_next 132 = .ok (.getfield 26, 3) := by decide +kernel
theorem dX6_next_135 : decode cX6_next 135 = .ok (.iconst 1, 1) := by decide +kernel
theorem dX6_next_136 : decode cX6_next 136 = .ok (.dup2, 1) := by decide +kernel
theorem dX6_next_137 : decode cX6_next 137 = .ok (.iaload, 1) := by decide +kernel
theorem dX6_next_138 : decode cX6_next 138 = .ok (.iconst 1, 1) := by decide +kernel
theorem dX6_next_139 : decode cX6_next 139 = .ok (.iadd, 1) := by decide +kernel
theorem dX6_next_140 : decode cX6_next 140 = .ok (.iastore, 1) := by decide +kernel
theorem dX6_next_141 : decode cX6_next 141 = .ok (.aload_n 0, 1) := by decide +kernel
theorem dX6_next_142 : decode cX6_next 142 = .ok (.aload_n 0, 1) := by decide +kernel
theorem dX6_next_143 : decode cX6_next 143 = .ok (.getfield 26, 3) := by decide +kernel
theorem dX6_next_146 : decode cX6_next 146 = .ok (.aload_n 0, 1) := by decide +kernel
theorem dX6_next_147 : decode cX6_next 147 = .ok (.getfield 26, 3) := by decide +kernel
theorem dX6_next_150 : decode cX6_next 150 = .ok (.invokestatic 180, 3) := by decide +kernel
theorem dX6_next_153 : decode cX6_next 153 = .ok (.iload_n 1, 1) := by decide +kernel
theorem dX6_next_154 : decode cX6_next 154 = .ok (.invokevirtual 194, 3) := by decide +kernel
theorem dX6_next_157 : decode cX6_next 157 = .ok (.ifCond .eq 44, 3) := by decide +kernel
theorem dX6_next_160 : decode cX6_next 160 = .ok (.aload_n 0, 1) := by decide +kernel
theorem dX6_next_161 : decode cX6_next 161 = .ok (.invokevirtual 204, 3) := by decide +kernel
theorem dX6_next_164 : decode cX6_next 164 = .ok (.iload_n 2, 1) := by decide +kernel
theorem dX6_next_165 : decode cX6_next 165 = .ok (.bipush (-9), 2) := by decide +kernel
theorem dX6_next_167 : decode cX6_next 167 = .ok (.if_icmp .eq 20, 3) := by decide +kernel
theorem dX6_next_170 : decode cX6_next 170 = .ok (.aload_n 0, 1) := by decide +kernel
theorem dX6_next_171 : decode cX6_next 171 = .ok (.getfield 170, 3) := by decide +kernel
theorem dX6_next_174 : decode cX6_next 174 = .ok (.lload 5, 2) := by decide +kernel
theorem dX6_next_176 : decode cX6_next 176 = .ok (.lmul, 1) := by decide +kernel
theorem dX6_next_177 : decode cX6_next 177 = .ok (.lload_n 3, 1) := by decide +kernel
theorem dX6_next_178 : decode cX6_next 178 = .ok (.aload_n 0, 1) := by decide +kernel
theorem dX6_next_179 : decode cX6_next 179 = .ok (.getfield 173, 3) := by decide +kernel
theorem dX6_next_182 : decode cX6_next 182 = .ok (.lmul, 1) := by decide +kernel
theorem dX6_next_183 : decode cX6_next 183 = .ok (.lcmp, 1) := by decide +kernel
theorem dX6_next_184 : decode cX6_next 184 = .ok (.ifCond .ge 17, 3) := by decide +kernel
theorem dX6_next_187 : decode cX6_next 187 = .ok (.iload 8, 2) := by decide +kernel
theorem dX6_next_189 : decode cX6_next 189 = .ok (.istore_n 2, 1) := by decide +kernel
theorem dX6_next_190 : decode cX6_next 190 = .ok (.aload_n 0, 1) := by decide +kernel
theorem dX6_next_191 : decode cX6_next 191 = .ok (.getfield 170, 3) := by decide +kernel
theorem dX6_next_194 : decode cX6_next 194 = .ok (.lstore_n 3, 1) := by decide +kernel
theorem dX6_next_195 : decode cX6_next 195 = .ok (.aload_n 0, 1) := by decide +kernel
theorem dX6_next_196 : decode cX6_next 196 = .ok (.getfield 173, 3) := by decide +kernel
theorem dX6_next_199 : decode cX6_next 199 = .ok (.lstore 5, 2) := by decide +kernel
theorem dX6_next_201 : decode cX6_next 201 = .ok (.iinc 7 1, 3) := by decide +kernel
theorem dX6_next_204 : decode cX6_next 204 = .ok (.goto (-174), 3) := by decide +kernel
theorem dX6_next_207 : decode cX6_next 207 = .ok (.iload_n 2, 1) := by decide +kernel
theorem dX6_next_208 : decode cX6_next 208 = .ok (.ireturn, 1) := by decide +kernel
theorem dX6_better_0 : decode cX6_better 0 = .ok (.aload_n 0, 1) := by decide +kernel
theorem dX6_better_1 : decode cX6_better 1 = .ok (.iconst 0, 1) := by decide +kernel
theorem dX6_better_2 : decode cX6_better 2 = .ok (.putfield 1, 3) := by decide +kernel
theorem dX6_better_5 : decode cX6_better 5 = .ok (.aload_n 0, 1) := by decide +kernel
theorem dX6_better_6 : decode cX6_better 6 = .ok (.aload_n 0, 1) := by decide +kernel
theorem dX6_better_7 : decode cX6_better 7 = .ok (.getfield 23, 3) := by decide +kernel
theorem dX6_better_10 : decode cX6_better 10 = .ok (.aload_n 0, 1) := by decide +kernel
theorem dX6_better_11 : decode cX6_better 11 = .ok (.getfield 23, 3) := by decide +kernel
theorem dX6_better_14 : decode cX6_better 14 = .ok (.invokestatic 180, 3) := by decide +kernel
theorem dX6_better_17 : decode cX6_better 17 = .ok (.iconst 1, 1) := by decide +kernel
theorem dX6_better_18 : decode cX6_better 18 = .ok (.invokevirtual 194, 3) := by decide +kernel
theorem dX6_better_21 : decode cX6_better 21 = .ok (.ifCond .ne 6, 3) := by decide +kernel
theorem dX6_better_24 : decode cX6_better 24 = .ok (.bipush (-3), 2) := by decide +kernel
theorem dX6_better_26 : decode cX6_better 26 = .ok (.ireturn, 1) := by decide +kernel
theorem dX6_better_27 : decode cX6_better 27 = .ok (.aload_n 0, 1) := by decide +kernel
theorem dX6_better_28 : decode cX6_better 28 = .ok (.invokevirtual 204, 3) := by decide +kernel
theorem dX6_better_31 : decode cX6_better 31 = .ok (.aload_n 0, 1) := by decide +kernel
theorem dX6_better_32 : decode cX6_better 32 = .ok (.getfield 170, 3) := by decide +kernel
theorem dX6_better_35 : decode cX6_better 35 = .ok (.lstore_n 1, 1) := by decide +kernel
theorem dX6_better_36 : decode cX6_better 36 = .ok (.aload_n 0, 1) := by decide +kernel
theorem dX6_better_37 : decode cX6_better 37 = .ok (.getfield 173, 3) := by decide +kernel
theorem dX6_better_40 : decode cX6_better 40 = .ok (.lstore_n 3, 1) := by decide +kernel
theorem dX6_better_41 : decode cX6_better 41 = .ok (.bipush (-9), 2) := by decide +kernel
theorem dX6_better_43 : decode cX6_better 43 = .ok (.istore 5, 2) := by decide +kernel
theorem dX6_better_45 : decode cX6_better 45 = .ok (.iconst 0, 1) := by decide +kernel
theorem dX6_better_46 : decode cX6_better 46 = .ok (.istore 6, 2) := by decide +kernel
theorem dX6_better_48 : decode cX6_better 48 = .ok (.iload 6, 2) := by decide +kernel
theorem dX6_better_50 : decode cX6_better 50 = .ok (.aload_n 0, 1) := by decide +kernel
theorem dX6_better_51 : decode cX6_better 51 = .ok (.getfield 23, 3) := by decide +kernel
theorem dX6_better_54 : decode cX6_better 54 = .ok (.iconst 1, 1) := by decide +kernel
theorem dX6_better_55 : decode cX6_better 55 = .ok (.iaload, 1) := by decide +kernel
theorem dX6_better_56 : decode cX6_better 56 = .ok (.if_icmp .ge 113, 3) := by decide +kernel
theorem dX6_better_59 : decode cX6_better 59 = .ok (.iload 6, 2) := by decide +kernel
theorem dX6_better_61 : decode cX6_better 61 = .ok (.iconst 1, 1) := by decide +kernel
theorem dX6_better_62 : decode cX6_better 62 = .ok (.iadd, 1) := by decide +kernel
theorem dX6_better_63 : decode cX6_better 63 = .ok (.istore 7, 2) := by decide +kernel
theorem dX6_better_65 : decode cX6_better 65 = .ok (.iload 7, 2) := by decide +kernel
theorem dX6_better_67 : decode cX6_better 67 = .ok (.aload_n 0, 1) := by decide +kernel
theorem dX6_better_68 : decode cX6_better 68 = .ok (.getfield 23, 3) := by decide +kernel
theorem dX6_better_71 : decode cX6_better 71 = .ok (.iconst 1, 1) := by decide +kernel
theorem dX6_better_72 : decode cX6_better 72 = .ok (.iaload, 1) := by decide +kernel
theorem dX6_better_73 : decode cX6_better 73 = .ok (.if_icmp .ge 90, 3) := by decide +kernel
theorem dX6_better_76 : decode cX6_better 76 = .ok (.aload_n 0, 1) := by decide +kernel
theorem dX6_better_77 : decode cX6_better 77 = .ok (.getfield 23, 3) := by decide +kernel
theorem dX6_better_80 : decode cX6_better 80 = .ok (.aload_n 0, 1) := by decide +kernel
theorem dX6_better_81 : decode cX6_better 81 = .ok (.getfield 26, 3) := by decide +kernel
theorem dX6_better_84 : decode cX6_better 84 = .ok (.invokestatic 95, 3) := by decide +kernel
theorem dX6_better_87 : decode cX6_better 87 = .ok (.aload_n 0, 1) := by decide +kernel
theorem dX6_better_88 : decode cX6_better 88 = .ok (.getfield 26, 3) := by decide +kernel
theorem dX6_better_91 : decode cX6_better 91 = .ok (.iload 6, 2) := by decide +kernel
theorem dX6_better_93 : decode cX6_better 93 = .ok (.iload 7, 2) := by decide +kernel
theorem dX6_better_95 : decode cX6_better 95 = .ok (.invokestatic 123, 3) := by decide +kernel
theorem dX6_better_98 : decode cX6_better 98 = .ok (.aload_n 0, 1) := by decide +kernel
theorem dX6_better_99 : decode cX6_better 99 = .ok (.aload_n 0, 1) := by decide +kernel
theorem dX6_better_100 : decode cX6_better 100 = .ok (.getfield 26, 3) := by decide +kernel
theorem dX6_better_103 : decode cX6_better 103 = .ok (.aload_n 0, 1) := by decide +kernel
theorem dX6_better_104 : decode cX6_better 104 = .ok (.getfield 26, 3) := by decide +kernel
theorem dX6_better_107 : decode cX6_better 107 = .ok (.invokestatic 180, 3) := by decide +kernel
theorem dX6_better_110 : decode cX6_better 110 = .ok (.iconst 1, 1) := by decide +kernel
theorem dX6_better_111 : decode cX6_better 111 = .ok (.invokevirtual 194, 3) := by decide +kernel
theorem dX6_better_114 : decode cX6_better 114 = .ok (.ifCond .eq 43, 3) := by decide +kernel
theorem dX6_better_117 : decode cX6_better 117 = .ok (.aload_n 0, 1) := by decide +kernel
theorem dX6_better_118 : decode cX6_better 118 = .ok (.invokevirtual 204, 3) := by decide +kernel
theorem dX6_better_121 : decode cX6_better 121 = .ok (.aload_n 0, 1) := by decide +kernel
theorem dX6_better_122 : decode cX6_better 122 = .ok (.getfield 170, 3) := by decide +kernel
theorem dX6_better_125 : decode cX6_better 125 = .ok (.lload_n 3, 1) := by decide +kernel
theorem dX6_better_126 : decode cX6_better 126 = .ok (.lmul, 1) := by decide +kernel
theorem dX6_better_127 : decode cX6_better 127 = .ok (.lload_n 1, 1) := by decide +kernel
theorem dX6_better_128 : decode cX6_better 128 = .ok (.aload_n 0, 1) := by decide +kernel
theorem dX6_better_129 : decode cX6_better 129 = .ok (.getfield 173, 3) := by decide +kernel
theorem dX6_better_132 : decode cX6_better 132 = .ok (.lmul, 1) := by decide +kernel
theorem dX6_better_133 : decode cX6_better 133 = .ok (.lcmp, 1) := by decide +kernel
theorem dX6_better_134 : decode cX6_better 134 = .ok (.ifCond .ge 23, 3) := by decide +kernel
theorem dX6_better_137 : decode cX6_better 137 = .ok (.bipush 10, 2) := by decide +kernel
theorem dX6_better_139 : decode cX6_better 139 = .ok (.iload 6, 2) := by decide +kernel
theorem dX6_better_141 : decode cX6_better 141 = .ok (.imul, 1) := by decide +kernel
theorem dX6_better_142 : decode cX6_better 142 = .ok (.iload 7, 2) := by decide +kernel
theorem dX6_better_144 : decode cX6_better 144 = .ok (.iadd, 1) := by decide +kernel
theorem dX6_better_145 : decode cX6_better 145 = .ok (.istore 5, 2) := by decide +kernel
theorem dX6_better_147 : decode cX6_better 147 = .ok (.aload_n 0, 1) := by decide +kernel
theorem dX6_better_148 : decode cX6_better 148 = .ok (.getfield 170, 3) := by decide +kernel
theorem dX6_better_151 : decode cX6_better 151 = .ok (.lstore_n 1, 1) := by decide +kernel
theorem dX6_better_152 : decode cX6_better 152 = .ok (.aload_n 0, 1) := by decide +kernel
theorem dX6_better_153 : decode cX6_better 153 = .ok (.getfield 173, 3) := by decide +kernel
theorem dX6_better_156 : decode cX6_better 156 = .ok (.lstore_n 3, 1) := by decide +kernel
theorem dX6_better_157 : decode cX6_better 157 = .ok (.iinc 7 1, 3) := by decide +kernel
theorem dX6_better_160 : decode cX6_better 160 = .ok (.goto (-95), 3) := by decide +kernel
theorem dX6_better_163 : decode cX6_better 163 = .ok (.iinc 6 1, 3) := by decide +kernel
theorem dX6_better_166 : decode cX6_better 166 = .ok (.goto (-118), 3) := by decide +kernel
theorem dX6_better_169 : decode cX6_better 169 = .ok (.iload 5, 2) := by decide +kernel
theorem dX6_better_171 : decode cX6_better 171 = .ok (.ireturn, 1) := by decide +kernel
theorem dX6_doubtfulOf_0 : decode cX6_doubtfulOf 0 = .ok (.bipush (-9), 2) := by decide +kernel
theorem dX6_doubtfulOf_2 : decode cX6_doubtfulOf 2 = .ok (.istore_n 3, 1) := by decide +kernel
theorem dX6_doubtfulOf_3 : decode cX6_doubtfulOf 3 = .ok (.lconst 0, 1) := by decide +kernel
theorem dX6_doubtfulOf_4 : decode cX6_doubtfulOf 4 = .ok (.lstore 4, 2) := by decide +kernel
theorem dX6_doubtfulOf_6 : decode cX6_doubtfulOf 6 = .ok (.lconst 1, 1) := by decide +kernel
theorem dX6_doubtfulOf_7 : decode cX6_doubtfulOf 7 = .ok (.lstore 6, 2) := by decide +kernel
theorem dX6_doubtfulOf_9 : decode cX6_doubtfulOf 9 = .ok (.iconst 0, 1) := by decide +kernel
theorem dX6_doubtfulOf_10 : decode cX6_doubtfulOf 10 = .ok (.istore 8, 2) := by decide +kernel
theorem dX6_doubtfulOf_12 : decode cX6_doubtfulOf 12 = .ok (.iload 8, 2) := by decide +kernel
theorem dX6_doubtfulOf_14 : decode cX6_doubtfulOf 14 = .ok (.aload_n 1, 1) := by decide +kernel
theorem dX6_doubtfulOf_15 : decode cX6_doubtfulOf 15 = .ok (.iconst 1, 1) := by decide +kernel
theorem dX6_doubtfulOf_16 : decode cX6_doubtfulOf 16 = .ok (.iaload, 1) := by decide +kernel
theorem dX6_doubtfulOf_17 : decode cX6_doubtfulOf 17 = .ok (.if_icmp .ge 72, 3) := by decide +kernel
theorem dX6_doubtfulOf_20 : decode cX6_doubtfulOf 20 = .ok (.aload_n 0, 1) := by decide +kernel
theorem dX6_doubtfulOf_21 : decode cX6_doubtfulOf 21 = .ok (.aload_n 1, 1) := by decide +kernel
theorem dX6_doubtfulOf_22 : decode cX6_doubtfulOf 22 = .ok (.aload_n 1, 1) := by decide +kernel
theorem dX6_doubtfulOf_23 : decode cX6_doubtfulOf 23 = .ok (.invokestatic 180, 3) := by decide +kernel
theorem dX6_doubtfulOf_26 : decode cX6_doubtfulOf 26 = .ok (.iconst 1, 1) := by decide +kernel
theorem dX6_doubtfulOf_27 : decode cX6_doubtfulOf 27 = .ok (.iload 8, 2) := by decide +kernel
theorem dX6_doubtfulOf_29 : decode cX6_doubtfulOf 29 = .ok (.ishl, 1) := by decide +kernel
theorem dX6_doubtfulOf_30 : decode cX6_doubtfulOf 30 = .ok (.iconst (-1), 1) := by decide +kernel
theorem dX6_doubtfulOf_31 : decode cX6_doubtfulOf 31 = .ok (.ixor, 1) := by decide +kernel
theorem dX6_doubtfulOf_32 : decode cX6_doubtfulOf 32 = .ok (.iand, 1) := by decide +kernel
theorem dX6_doubtfulOf_33 : decode cX6_doubtfulOf 33 = .ok (.iload_n 2, 1) := by decide +kernel
theorem dX6_doubtfulOf_34 : decode cX6_doubtfulOf 34 = .ok (.invokevirtual 194, 3) := by decide +kernel
theorem dX6_doubtfulOf_37 : decode cX6_doubtfulOf 37 = .ok (.ifCond .eq 46, 3) := by decide +kernel
theorem dX6_doubtfulOf_40 : decode cX6_doubtfulOf 40 = .ok (.aload_n 0, 1) := by decide +kernel
theorem dX6_doubtfulOf_41 : decode cX6_doubtfulOf 41 = .ok (.invokevirtual 207, 3) := by decide +kernel
theorem dX6_doubtfulOf_44 : decode cX6_doubtfulOf 44 = .ok (.iload_n 3, 1) := by decide +kernel
theorem dX6_doubtfulOf_45 : decode cX6_doubtfulOf 45 = .ok (.bipush (-9), 2) := by decide +kernel
theorem dX6_doubtfulOf_47 : decode cX6_doubtfulOf 47 = .ok (.if_icmp .eq 21, 3) := by decide +kernel
theorem dX6_doubtfulOf_50 : decode cX6_doubtfulOf 50 = .ok (.aload_n 0, 1) := by decide +kernel
theorem dX6_doubtfulOf_51 : decode cX6_doubtfulOf 51 = .ok (.getfield 170, 3) := by decide +kernel
theorem dX6_doubtfulOf_54 : decode cX6_doubtfulOf 54 = .ok (.lload 6, 2) := by decide +kernel
theorem dX6_doubtfulOf_56 : decode cX6_doubtfulOf 56 = .ok (.lmul, 1) := by decide +kernel
theorem dX6_doubtfulOf_57 : decode cX6_doubtfulOf 57 = .ok (.lload 4, 2) := by decide +kernel
theorem dX6_doubtfulOf_59 : decode cX6_doubtfulOf 59 = .ok (.aload_n 0, 1) := by decide +kernel
theorem dX6_doubtfulOf_60 : decode cX6_doubtfulOf 60 = .ok (.getfield 173, 3) := by decide +kernel
theorem dX6_doubtfulOf_63 : decode cX6_doubtfulOf 63 = .ok (.lmul, 1) := by decide +kernel
theorem dX6_doubtfulOf_64 : decode cX6_doubtfulOf 64 = .ok (.lcmp, 1) := by decide +kernel
theorem dX6_doubtfulOf_65 : decode cX6_doubtfulOf 65 = .ok (.ifCond .ge 18, 3) := by decide +kernel
theorem dX6_doubtfulOf_68 : decode cX6_doubtfulOf 68 = .ok (.iload 8, 2) := by decide +kernel
theorem dX6_doubtfulOf_70 : decode cX6_doubtfulOf 70 = .ok (.istore_n 3, 1) := by decide +kernel
theorem dX6_doubtfulOf_71 : decode cX6_doubtfulOf 71 = .ok (.aload_n 0, 1) := by decide +kernel
theorem dX6_doubtfulOf_72 : decode cX6_doubtfulOf 72 = .ok (.getfield 170, 3) := by decide +kernel
theorem dX6_doubtfulOf_75 : decode cX6_doubtfulOf 75 = .ok (.lstore 4, 2) := by decide +kernel
theorem dX6_doubtfulOf_77 : decode cX6_doubtfulOf 77 = .ok (.aload_n 0, 1) := by decide +kernel
theorem dX6_doubtfulOf_78 : decode cX6_doubtfulOf 78 = .ok (.getfield 173, 3) := by decide +kernel
theorem dX6_doubtfulOf_81 : decode cX6_doubtfulOf 81 = .ok (.lstore 6, 2) := by decide +kernel
theorem dX6_doubtfulOf_83 : decode cX6_doubtfulOf 83 = .ok (.iinc 8 1, 3) := by decide +kernel
theorem dX6_doubtfulOf_86 : decode cX6_doubtfulOf 86 = .ok (.goto (-74), 3) := by decide +kernel
theorem dX6_doubtfulOf_89 : decode cX6_doubtfulOf 89 = .ok (.iload_n 3, 1) := by decide +kernel
theorem dX6_doubtfulOf_90 : decode cX6_doubtfulOf 90 = .ok (.ireturn, 1) := by decide +kernel
theorem dX6_doubtful_0 : decode cX6_doubtful 0 = .ok (.aload_n 0, 1) := by decide +kernel
theorem dX6_doubtful_1 : decode cX6_doubtful 1 = .ok (.iconst 0, 1) := by decide +kernel
theorem dX6_doubtful_2 : decode cX6_doubtful 2 = .ok (.putfield 1, 3) := by decide +kernel
theorem dX6_doubtful_5 : decode cX6_doubtful 5 = .ok (.aload_n 0, 1) := by decide +kernel
theorem dX6_doubtful_6 : decode cX6_doubtful 6 = .ok (.aload_n 0, 1) := by decide +kernel
theorem dX6_doubtful_7 : decode cX6_doubtful 7 = .ok (.getfield 23, 3) := by decide +kernel
theorem dX6_doubtful_10 : decode cX6_doubtful 10 = .ok (.iload_n 1, 1) := by decide +kernel
theorem dX6_doubtful_11 : decode cX6_doubtful 11 = .ok (.invokevirtual 210, 3) := by decide +kernel
theorem dX6_doubtful_14 : decode cX6_doubtful 14 = .ok (.ireturn, 1) := by decide +kernel
theorem dX6_wrong_0 : decode cX6_wrong 0 = .ok (.aload_n 0, 1) := by decide +kernel
theorem dX6_wrong_1 : decode cX6_wrong 1 = .ok (.iconst 0, 1) := by decide +kernel
theorem dX6_wrong_2 : decode cX6_wrong 2 = .ok (.putfield 1, 3) := by decide +kernel
theorem dX6_wrong_5 : decode cX6_wrong 5 = .ok (.iconst 0, 1) := by decide +kernel
theorem dX6_wrong_6 : decode cX6_wrong 6 = .ok (.istore_n 2, 1) := by decide +kernel
theorem dX6_wrong_7 : decode cX6_wrong 7 = .ok (.iconst 0, 1) := by decide +kernel
theorem dX6_wrong_8 : decode cX6_wrong 8 = .ok (.istore_n 3, 1) := by decide +kernel
theorem dX6_wrong_9 : decode cX6_wrong 9 = .ok (.iload_n 3, 1) := by decide +kernel
theorem dX6_wrong_10 : decode cX6_wrong 10 = .ok (.aload_n 0, 1) := by decide +kernel
theorem dX6_wrong_11 : decode cX6_wrong 11 = .ok (.getfield 23, 3) := by decide +kernel
theorem dX6_wrong_14 : decode cX6_wrong 14 = .ok (.iconst 1, 1) := by decide +kernel
theorem dX6_wrong_15 : decode cX6_wrong 15 = .ok (.iaload, 1) := by decide +kernel
theorem dX6_wrong_16 : decode cX6_wrong 16 = .ok (.if_icmp .ge 57, 3) := by decide +kernel
theorem dX6_wrong_19 : decode cX6_wrong 19 = .ok (.aload_n 0, 1) := by decide +kernel
theorem dX6_wrong_20 : decode cX6_wrong 20 = .ok (.aload_n 0, 1) := by decide +kernel
theorem dX6_wrong_21 : decode cX6_wrong 21 = .ok (.getfield 23, 3) := by decide +kernel
theorem dX6_wrong_24 : decode cX6_wrong 24 = .ok (.aload_n 0, 1) := by decide +kernel
theorem dX6_wrong_25 : decode cX6_wrong 25 = .ok (.getfield 23, 3) := by decide +kernel
theorem dX6_wrong_28 : decode cX6_wrong 28 = .ok (.invokestatic 180, 3) := by decide +kernel
theorem dX6_wrong_31 : decode cX6_wrong 31 = .ok (.iconst 1, 1) := by decide +kernel
theorem dX6_wrong_32 : decode cX6_wrong 32 = .ok (.iload_n 3, 1) := by decide +kernel
theorem dX6_wrong_33 : decode cX6_wrong 33 = .ok (.ishl, 1) := by decide +kernel
theorem dX6_wrong_34 : decode cX6_wrong 34 = .ok (.iconst (-1), 1) := by decide +kernel
theorem dX6_wrong_35 : decode cX6_wrong 35 = .ok (.ixor, 1) := by decide +kernel
theorem dX6_wrong_36 : decode cX6_wrong 36 = .ok (.iand, 1) := by decide +kernel
theorem dX6_wrong_37 : decode cX6_wrong 37 = .ok (.iload_n 1, 1) := by decide +kernel
theorem dX6_wrong_38 : decode cX6_wrong 38 = .ok (.invokevirtual 194, 3) := by decide +kernel
theorem dX6_wrong_41 : decode cX6_wrong 41 = .ok (.ifCond .eq 26, 3) := by decide +kernel
theorem dX6_wrong_44 : decode cX6_wrong 44 = .ok (.aload_n 0, 1) := by decide +kernel
theorem dX6_wrong_45 : decode cX6_wrong 45 = .ok (.invokevirtual 207, 3) := by decide +kernel
theorem dX6_wrong_48 : decode cX6_wrong 48 = .ok (.iload_n 2, 1) := by decide +kernel
theorem dX6_wrong_49 : decode cX6_wrong 49 = .ok (.aload_n 0, 1) := by decide +kernel
theorem dX6_wrong_50 : decode cX6_wrong 50 = .ok (.getfield 170, 3) := by decide +kernel
theorem dX6_wrong_53 : decode cX6_wrong 53 = .ok (.lconst 0, 1) := by decide +kernel
theorem dX6_wrong_54 : decode cX6_wrong 54 = .ok (.lcmp, 1) := by decide +kernel
theorem dX6_wrong_55 : decode cX6_wrong 55 = .ok (.ifCond .ne 9, 3) := by decide +kernel
theorem dX6_wrong_58 : decode cX6_wrong 58 = .ok (.iconst 1, 1) := by decide +kernel
theorem dX6_wrong_59 : decode cX6_wrong 59 = .ok (.iload_n 3, 1) := by decide +kernel
theorem dX6_wrong_60 : decode cX6_wrong 60 = .ok (.ishl, 1) := by decide +kernel
theorem dX6_wrong_61 : decode cX6_wrong 61 = .ok (.goto 4, 3) := by decide +kernel
theorem dX6_wrong_64 : decode cX6_wrong 64 = .ok (.iconst 0, 1) := by decide +kernel
theorem dX6_wrong_65 : decode cX6_wrong 65 = .ok (.ior, 1) := by decide +kernel
theorem dX6_wrong_66 : decode cX6_wrong 66 = .ok (.istore_n 2, 1) := by decide +kernel
theorem dX6_wrong_67 : decode cX6_wrong 67 = .ok (.iinc 3 1, 3) := by decide +kernel
theorem dX6_wrong_70 : decode cX6_wrong 70 = .ok (.goto (-61), 3) := by decide +kernel
theorem dX6_wrong_73 : decode cX6_wrong 73 = .ok (.iload_n 2, 1) := by decide +kernel
theorem dX6_wrong_74 : decode cX6_wrong 74 = .ok (.ireturn, 1) := by decide +kernel
theorem dX6_isWorth_0 : decode cX6_isWorth 0 = .ok (.aload_n 0, 1) := by decide +kernel
theorem dX6_isWorth_1 : decode cX6_isWorth 1 = .ok (.iload_n 1, 1) := by decide +kernel
theorem dX6_isWorth_2 : decode cX6_isWorth 2 = .ok (.iconst 0, 1) := by decide +kernel
theorem dX6_isWorth_3 : decode cX6_isWorth 3 = .ok (.invokevirtual 188, 3) := by decide +kernel
theorem dX6_isWorth_6 : decode cX6_isWorth 6 = .ok (.ifCond .ne 22, 3) := by decide +kernel
theorem dX6_isWorth_9 : decode cX6_isWorth 9 = .ok (.aload_n 0, 1) := by decide +kernel
theorem dX6_isWorth_10 : decode cX6_isWorth 10 = .ok (.aload_n 0, 1) := by decide +kernel
theorem dX6_isWorth_11 : decode cX6_isWorth 11 = .ok (.getfield 26, 3) := by decide +kernel
theorem dX6_isWorth_14 : decode cX6_isWorth 14 = .ok (.aload_n 0, 1) := by decide +kernel
theorem dX6_isWorth_15 : decode cX6_isWorth 15 = .ok (.getfield 26, 3) := by decide +kernel
theorem dX6_isWorth_18 : decode cX6_isWorth 18 = .ok (.invokestatic 180, 3) := by decide +kernel
theorem dX6_isWorth_21 : decode cX6_isWorth 21 = .ok (.iconst 0, 1) := by decide +kernel
theorem dX6_isWorth_22 : decode cX6_isWorth 22 = .ok (.invokevirtual 194, 3) := by decide +kernel
theorem dX6_isWorth_25 : decode cX6_isWorth 25 = .ok (.ifCond .ne 5, 3) := by decide +kernel
theorem dX6_isWorth_28 : decode cX6_isWorth 28 = .ok (.iconst 0, 1) := by decide +kernel
theorem dX6_isWorth_29 : decode cX6_isWorth 29 = .ok (.ireturn, 1) := by decide +kernel
theorem dX6_isWorth_30 : decode cX6_isWorth 30 = .ok (.aload_n 0, 1) := by decide +kernel
theorem dX6_isWorth_31 : decode cX6_isWorth 31 = .ok (.aload_n 0, 1) := by decide +kernel
theorem dX6_isWorth_32 : decode cX6_isWorth 32 = .ok (.aload_n 0, 1) := by decide +kernel
theorem dX6_isWorth_33 : decode cX6_isWorth 33 = .ok (.invokevirtual 155, 3) := by decide +kernel
theorem dX6_isWorth_36 : decode cX6_isWorth 36 = .ok (.iload_n 1, 1) := by decide +kernel
theorem dX6_isWorth_37 : decode cX6_isWorth 37 = .ok (.invokevirtual 162, 3) := by decide +kernel
theorem dX6_isWorth_40 : decode cX6_isWorth 40 = .ok (.aload_n 0, 1) := by decide +kernel
theorem dX6_isWorth_41 : decode cX6_isWorth 41 = .ok (.aload_n 0, 1) := by decide +kernel
theorem dX6_isWorth_42 : decode cX6_isWorth 42 = .ok (.invokevirtual 155, 3) := by decide +kernel
theorem dX6_isWorth_45 : decode cX6_isWorth 45 = .ok (.bipush (-9), 2) := by decide +kernel
theorem dX6_isWorth_47 : decode cX6_isWorth 47 = .ok (.invokevirtual 162, 3) := by decide +kernel
theorem dX6_isWorth_50 : decode cX6_isWorth 50 = .ok (.invokevirtual 176, 3) := by decide +kernel
theorem dX6_isWorth_53 : decode cX6_isWorth 53 = .ok (.aload_n 0, 1) := by decide +kernel
theorem dX6_isWorth_54 : decode cX6_isWorth 54 = .ok (.getfield 173, 3) := by decide +kernel
theorem dX6_isWorth_57 : decode cX6_isWorth 57 = .ok (.lconst 1, 1) := by decide +kernel
theorem dX6_isWorth_58 : decode cX6_isWorth 58 = .ok (.lcmp, 1) := by decide +kernel
theorem dX6_isWorth_59 : decode cX6_isWorth 59 = .ok (.ifCond .ne 17, 3) := by decide +kernel
theorem dX6_isWorth_62 : decode cX6_isWorth 62 = .ok (.aload_n 0, 1) := by decide +kernel
theorem dX6_isWorth_63 : decode cX6_isWorth 63 = .ok (.getfield 170, 3) := by decide +kernel
theorem dX6_isWorth_66 : decode cX6_isWorth 66 = .ok (.iload_n 2, 1) := by decide +kernel
theorem dX6_isWorth_67 : decode cX6_isWorth 67 = .ok (.i2l, 1) := by decide +kernel
theorem dX6_isWorth_68 : decode cX6_isWorth 68 = .ok (.lcmp, 1) := by decide +kernel
theorem dX6_isWorth_69 : decode cX6_isWorth 69 = .ok (.ifCond .ne 7, 3) := by decide +kernel
theorem dX6_isWorth_72 : decode cX6_isWorth 72 = .ok (.iconst 1, 1) := by decide +kernel
theorem dX6_isWorth_73 : decode cX6_isWorth 73 = .ok (.goto 4, 3) := by decide +kernel
theorem dX6_isWorth_76 : decode cX6_isWorth 76 = .ok (.iconst 0, 1) := by decide +kernel
theorem dX6_isWorth_77 : decode cX6_isWorth 77 = .ok (.ireturn, 1) := by decide +kernel
theorem dX6_does_0 : decode cX6_does 0 = .ok (.aload_n 0, 1) := by decide +kernel
theorem dX6_does_1 : decode cX6_does 1 = .ok (.getfield 26, 3) := by decide +kernel
theorem dX6_does_4 : decode cX6_does 4 = .ok (.iconst 1, 1) := by decide +kernel
theorem dX6_does_5 : decode cX6_does 5 = .ok (.iaload, 1) := by decide +kernel
theorem dX6_does_6 : decode cX6_does 6 = .ok (.istore 4, 2) := by decide +kernel
theorem dX6_does_8 : decode cX6_does 8 = .ok (.iload_n 1, 1) := by decide +kernel
theorem dX6_does_9 : decode cX6_does 9 = .ok (.tableswitch 188 1 6 #[39, 85, 107, 114, 144, 173], 39) := by decide +kernel
theorem dX6_does_48 : decode cX6_does 48 = .ok (.iload_n 2, 1) := by decide +kernel
theorem dX6_does_49 : decode cX6_does 49 = .ok (.iload 4, 2) := by decide +kernel
theorem dX6_does_51 : decode cX6_does 51 = .ok (.if_icmp .ge 27, 3) := by decide +kernel
theorem dX6_does_54 : decode cX6_does 54 = .ok (.iload_n 3, 1) := by decide +kernel
theorem dX6_does_55 : decode cX6_does 55 = .ok (.bipush 10, 2) := by decide +kernel
theorem dX6_does_57 : decode cX6_does 57 = .ok (.idiv, 1) := by decide +kernel
theorem dX6_does_58 : decode cX6_does 58 = .ok (.iload 4, 2) := by decide +kernel
theorem dX6_does_60 : decode cX6_does 60 = .ok (.if_icmp .ge 18, 3) := by decide +kernel
theorem dX6_does_63 : decode cX6_does 63 = .ok (.iload_n 2, 1) := by decide +kernel
theorem dX6_does_64 : decode cX6_does 64 = .ok (.iload_n 3, 1) := by decide +kernel
theorem dX6_does_65 : decode cX6_does 65 = .ok (.bipush 10, 2) := by decide +kernel
theorem dX6_does_67 : decode cX6_does 67 = .ok (.idiv, 1) := by decide +kernel
theorem dX6_does_68 : decode cX6_does 68 = .ok (.if_icmp .eq 10, 3) := by decide +kernel
theorem dX6_does_71 : decode cX6_does 71 = .ok (.iload_n 3, 1) := by decide +kernel
theorem dX6_does_72 : decode cX6_does 72 = .ok (.bipush 10, 2) := by decide +kernel
theorem dX6_does_74 : decode cX6_does 74 = .ok (.irem, 1) := by decide +kernel
theorem dX6_does_75 : decode cX6_does 75 = .ok (.ifCond .eq 5, 3) := by decide +kernel
theorem dX6_does_78 : decode cX6_does 78 = .ok (.iconst 0, 1) := by decide +kernel
theorem dX6_does_79 : decode cX6_does 79 = .ok (.ireturn, 1) := by decide +kernel
theorem dX6_does_80 : decode cX6_does 80 = .ok (.aload_n 0, 1) := by decide +kernel
theorem dX6_does_81 : decode cX6_does 81 = .ok (.getfield 26, 3) := by decide +kernel
theorem dX6_does_84 : decode cX6_does 84 = .ok (.iload_n 2, 1) := by decide +kernel
theorem dX6_does_85 : decode cX6_does 85 = .ok (.iload_n 3, 1) := by decide +kernel
theorem dX6_does_86 : decode cX6_does 86 = .ok (.bipush 10, 2) := by decide +kernel
theorem dX6_does_88 : decode cX6_does 88 = .ok (.idiv, 1) := by decide +kernel
theorem dX6_does_89 : decode cX6_does 89 = .ok (.invokestatic 123, 3) := by decide +kernel
theorem dX6_does_92 : decode cX6_does 92 = .ok (.iconst 1, 1) := by decide +kernel
theorem dX6_does_93 : decode cX6_does 93 = .ok (.ireturn, 1) := by decide +kernel
theorem dX6_does_94 : decode cX6_does 94 = .ok (.iload_n 2, 1) := by decide +kernel
theorem dX6_does_95 : decode cX6_does 95 = .ok (.iload 4, 2) := by decide +kernel
theorem dX6_does_97 : decode cX6_does 97 = .ok (.if_icmp .ge 7, 3) := by decide +kernel
theorem dX6_does_100 : decode cX6_does 100 = .ok (.iload_n 3, 1) := by decide +kernel
theorem dX6_does_101 : decode cX6_does 101 = .ok (.ifCond .eq 5, 3) := by decide +kernel
theorem dX6_does_104 : decode cX6_does 104 = .ok (.iconst 0, 1) := by decide +kernel
theorem dX6_does_105 : decode cX6_does 105 = .ok (.ireturn, 1) := by decide +kernel
theorem dX6_does_106 : decode cX6_does 106 = .ok (.aload_n 0, 1) := by decide +kernel
theorem dX6_does_107 : decode cX6_does 107 = .ok (.getfield 26, 3) := by decide +kernel
theorem dX6_does_110 : decode cX6_does 110 = .ok (.iload_n 2, 1) := by decide +kernel
theorem dX6_does_111 : decode cX6_does 111 = .ok (.invokestatic 119, 3) := by decide +kernel
theorem dX6_does_114 : decode cX6_does 114 = .ok (.iconst 1, 1) := by decide +kernel
theorem dX6_does_115 : decode cX6_does 115 = .ok (.ireturn, 1) := by decide +kernel
theorem dX6_does_116 : decode cX6_does 116 = .ok (.aload_n 0, 1) := by decide +kernel
theorem dX6_does_117 : decode cX6_does 117 = .ok (.iload_n 2, 1) := by decide +kernel
theorem dX6_does_118 : decode cX6_does 118 = .ok (.iload_n 3, 1) := by decide +kernel
theorem dX6_does_119 : decode cX6_does 119 = .ok (.invokevirtual 214, 3) := by decide +kernel
theorem dX6_does_122 : decode cX6_does 122 = .ok (.ireturn, 1) := by decide +kernel
theorem dX6_does_123 : decode cX6_does 123 = .ok (.iload_n 3, 1) := by decide +kernel
theorem dX6_does_124 : decode cX6_does 124 = .ok (.ifCond .ne 27, 3) := by decide +kernel
theorem dX6_does_127 : decode cX6_does 127 = .ok (.aload_n 0, 1) := by decide +kernel
theorem dX6_does_128 : decode cX6_does 128 = .ok (.aload_n 0, 1) := by decide +kernel
theorem dX6_does_129 : decode cX6_does 129 = .ok (.getfield 26, 3) := by decide +kernel
theorem dX6_does_132 : decode cX6_does 132 = .ok (.aload_n 0, 1) := by decide +kernel
theorem dX6_does_133 : decode cX6_does 133 = .ok (.getfield 26, 3) := by decide +kernel
theorem dX6_does_136 : decode cX6_does 136 = .ok (.invokestatic 180, 3) := by decide +kernel
theorem dX6_does_139 : decode cX6_does 139 = .ok (.iconst 0, 1) := by decide +kernel
theorem dX6_does_140 : decode cX6_does 140 = .ok (.invokevirtual 184, 3) := by decide +kernel
theorem dX6_does_143 : decode cX6_does 143 = .ok (.iload_n 2, 1) := by decide +kernel
theorem dX6_does_144 : decode cX6_does 144 = .ok (.if_icmp .ne 7, 3) := by decide +kernel
theorem dX6_does_147 : decode cX6_does 147 = .ok (.iconst 1, 1) := by decide +kernel
theorem dX6_does_148 : decode cX6_does 148 = .ok (.goto 4, 3) := by decide +kernel
theorem dX6_does_151 : decode cX6_does 151 = .ok (.iconst 0, 1) := by decide +kernel
theorem dX6_does_152 : decode cX6_does 152 = .ok (.ireturn, 1) := by decide +kernel
theorem dX6_does_153 : decode cX6_does 153 = .ok (.iload_n 2, 1) := by decide +kernel
theorem dX6_does_154 : decode cX6_does 154 = .ok (.iload 4, 2) := by decide +kernel
theorem dX6_does_156 : decode cX6_does 156 = .ok (.if_icmp .ge 24, 3) := by decide +kernel
theorem dX6_does_159 : decode cX6_does 159 = .ok (.iload_n 3, 1) := by decide +kernel
theorem dX6_does_160 : decode cX6_does 160 = .ok (.ifCond .ne 20, 3) := by decide +kernel
theorem dX6_does_163 : decode cX6_does 163 = .ok (.aload_n 0, 1) := by decide +kernel
theorem dX6_does_164 : decode cX6_does 164 = .ok (.aload_n 0, 1) := by decide +kernel
theorem dX6_does_165 : decode cX6_does 165 = .ok (.getfield 26, 3) := by decide +kernel
theorem dX6_does_168 : decode cX6_does 168 = .ok (.iconst 0, 1) := by decide +kernel
theorem dX6_does_169 : decode cX6_does 169 = .ok (.invokevirtual 210, 3) := by decide +kernel
theorem dX6_does_172 : decode cX6_does 172 = .ok (.iload_n 2, 1) := by decide +kernel
theorem dX6_does_173 : decode cX6_does 173 = .ok (.if_icmp .ne 7, 3) := by decide +kernel
theorem dX6_does_176 : decode cX6_does 176 = .ok (.iconst 1, 1) := by decide +kernel
theorem dX6_does_177 : decode cX6_does 177 = .ok (.goto 4, 3) := by decide +kernel
theorem dX6_does_180 : decode cX6_does 180 = .ok (.iconst 0, 1) := by decide +kernel
theorem dX6_does_181 : decode cX6_does 181 = .ok (.ireturn, 1) := by decide +kernel
theorem dX6_does_182 : decode cX6_does 182 = .ok (.iload_n 2, 1) := by decide +kernel
theorem dX6_does_183 : decode cX6_does 183 = .ok (.ifCond .eq 5, 3) := by decide +kernel
theorem dX6_does_186 : decode cX6_does 186 = .ok (.iconst 0, 1) := by decide +kernel
theorem dX6_does_187 : decode cX6_does 187 = .ok (.ireturn, 1) := by decide +kernel
theorem dX6_does_188 : decode cX6_does 188 = .ok (.aload_n 0, 1) := by decide +kernel
theorem dX6_does_189 : decode cX6_does 189 = .ok (.getfield 26, 3) := by decide +kernel
theorem dX6_does_192 : decode cX6_does 192 = .ok (.iconst 0, 1) := by decide +kernel
theorem dX6_does_193 : decode cX6_does 193 = .ok (.iload_n 3, 1) := by decide +kernel
theorem dX6_does_194 : decode cX6_does 194 = .ok (.iastore, 1) := by decide +kernel
theorem dX6_does_195 : decode cX6_does 195 = .ok (.iconst 1, 1) := by decide +kernel
theorem dX6_does_196 : decode cX6_does 196 = .ok (.ireturn, 1) := by decide +kernel
theorem dX6_does_197 : decode cX6_does 197 = .ok (.iconst 0, 1) := by decide +kernel
theorem dX6_does_198 : decode cX6_does 198 = .ok (.ireturn, 1) := by decide +kernel
theorem dX6_longPower_0 : decode cX6_longPower 0 = .ok (.lconst 1, 1) := by decide +kernel
theorem dX6_longPower_1 : decode cX6_longPower 1 = .ok (.lstore_n 3, 1) := by decide +kernel
theorem dX6_longPower_2 : decode cX6_longPower 2 = .ok (.iconst 0, 1) := by decide +kernel
theorem dX6_longPower_3 : decode cX6_longPower 3 = .ok (.istore 5, 2) := by decide +kernel
theorem dX6_longPower_5 : decode cX6_longPower 5 = .ok (.iload 5, 2) := by decide +kernel
theorem dX6_longPower_7 : decode cX6_longPower 7 = .ok (.iload_n 2, 1) := by decide +kernel
theorem dX6_longPower_8 : decode cX6_longPower 8 = .ok (.if_icmp .ge 13, 3) := by decide +kernel
theorem dX6_longPower_11 : decode cX6_longPower 11 = .ok (.lload_n 3, 1) := by decide +kernel
theorem dX6_longPower_12 : decode cX6_longPower 12 = .ok (.lload_n 0, 1) := by decide +kernel
theorem dX6_longPower_13 : decode cX6_longPower 13 = .ok (.lmul, 1) := by decide +kernel
theorem dX6_longPower_14 : decode cX6_longPower 14 = .ok (.lstore_n 3, 1) := by decide +kernel
theorem dX6_longPower_15 : decode cX6_longPower 15 = .ok (.iinc 5 1, 3) := by decide +kernel
theorem dX6_longPower_18 : decode cX6_longPower 18 = .ok (.goto (-13), 3) := by decide +kernel
theorem dX6_longPower_21 : decode cX6_longPower 21 = .ok (.lload_n 3, 1) := by decide +kernel
theorem dX6_longPower_22 : decode cX6_longPower 22 = .ok (.lreturn, 1) := by decide +kernel
theorem dX6_judge_0 : decode cX6_judge 0 = .ok (.aload_n 0, 1) := by decide +kernel
theorem dX6_judge_1 : decode cX6_judge 1 = .ok (.iconst 0, 1) := by decide +kernel
theorem dX6_judge_2 : decode cX6_judge 2 = .ok (.putfield 1, 3) := by decide +kernel
theorem dX6_judge_5 : decode cX6_judge 5 = .ok (.iload_n 1, 1) := by decide +kernel
theorem dX6_judge_6 : decode cX6_judge 6 = .ok (.i2l, 1) := by decide +kernel
theorem dX6_judge_7 : decode cX6_judge 7 = .ok (.lconst 1, 1) := by decide +kernel
theorem dX6_judge_8 : decode cX6_judge 8 = .ok (.ldc2_w 217, 3) := by decide +kernel
theorem dX6_judge_11 : decode cX6_judge 11 = .ok (.invokestatic 61, 3) := by decide +kernel
theorem dX6_judge_14 : decode cX6_judge 14 = .ok (.ifCond .eq 20, 3) := by decide +kernel
theorem dX6_judge_17 : decode cX6_judge 17 = .ok (.lload_n 2, 1) := by decide +kernel
theorem dX6_judge_18 : decode cX6_judge 18 = .ok (.lconst 0, 1) := by decide +kernel
theorem dX6_judge_19 : decode cX6_judge 19 = .ok (.ldc2_w 219, 3) := by decide +kernel
theorem dX6_judge_22 : decode cX6_judge 22 = .ok (.iload_n 1, 1) := by decide +kernel
theorem dX6_judge_23 : decode cX6_judge 23 = .ok (.invokestatic 221, 3) := by decide +kernel
theorem dX6_judge_26 : decode cX6_judge 26 = .ok (.lconst 1, 1) := by decide +kernel
theorem dX6_judge_27 : decode cX6_judge 27 = .ok (.lsub, 1) := by decide +kernel
theorem dX6_judge_28 : decode cX6_judge 28 = .ok (.invokestatic 61, 3) := by decide +kernel
theorem dX6_judge_31 : decode cX6_judge 31 = .ok (.ifCond .ne 6, 3) := by decide +kernel
theorem dX6_judge_34 : decode cX6_judge 34 = .ok (.bipush (-2), 2) := by decide +kernel
theorem dX6_judge_36 : decode cX6_judge 36 = .ok (.ireturn, 1) := by decide +kernel
theorem dX6_judge_37 : decode cX6_judge 37 = .ok (.aload_n 0, 1) := by decide +kernel
theorem dX6_judge_38 : decode cX6_judge 38 = .ok (.getfield 23, 3) := by decide +kernel
theorem dX6_judge_41 : decode cX6_judge 41 = .ok (.aload_n 0, 1) := by decide +kernel
theorem dX6_judge_42 : decode cX6_judge 42 = .ok (.getfield 26, 3) := by decide +kernel
theorem dX6_judge_45 : decode cX6_judge 45 = .ok (.invokestatic 95, 3) := by decide +kernel
theorem dX6_judge_48 : decode cX6_judge 48 = .ok (.iconst 0, 1) := by decide +kernel
theorem dX6_judge_49 : decode cX6_judge 49 = .ok (.istore 4, 2) := by decide +kernel
theorem dX6_judge_51 : decode cX6_judge 51 = .ok (.iload 4, 2) := by decide +kernel
theorem dX6_judge_53 : decode cX6_judge 53 = .ok (.iload_n 1, 1) := by decide +kernel
theorem dX6_judge_54 : decode cX6_judge 54 = .ok (.if_icmp .ge 59, 3) := by decide +kernel
theorem dX6_judge_57 : decode cX6_judge 57 = .ok (.lload_n 2, 1) := by decide +kernel
theorem dX6_judge_58 : decode cX6_judge 58 = .ok (.ldc2_w 219, 3) := by decide +kernel
theorem dX6_judge_61 : decode cX6_judge 61 = .ok (.iload_n 1, 1) := by decide +kernel
theorem dX6_judge_62 : decode cX6_judge 62 = .ok (.iconst 1, 1) := by decide +kernel
theorem dX6_judge_63 : decode cX6_judge 63 = .ok (.isub, 1) := by decide +kernel
theorem dX6_judge_64 : decode cX6_judge 64 = .ok (.iload 4, 2) := by decide +kernel
theorem dX6_judge_66 : decode cX6_judge 66 = .ok (.isub, 1) := by decide +kernel
theorem dX6_judge_67 : decode cX6_judge 67 = .ok (.invokestatic 221, 3) := by decide +kernel
theorem dX6_judge_70 : decode cX6_judge 70 = .ok (.ldiv, 1) := by decide +kernel
theorem dX6_judge_71 : decode cX6_judge 71 = .ok (.ldc2_w 219, 3) := by decide +kernel
theorem dX6_judge_74 : decode cX6_judge 74 = .ok (.lrem, 1) := by decide +kernel
theorem dX6_judge_75 : decode cX6_judge 75 = .ok (.l2i, 1) := by decide +kernel
theorem dX6_judge_76 : decode cX6_judge 76 = .ok (.istore 5, 2) := by decide +kernel
theorem dX6_judge_78 : decode cX6_judge 78 = .ok (.aload_n 0, 1) := by decide +kernel
theorem dX6_judge_79 : decode cX6_judge 79 = .ok (.iload 5, 2) := by decide +kernel
theorem dX6_judge_81 : decode cX6_judge 81 = .ok (.sipush 1000, 3) := by decide +kernel
theorem dX6_judge_84 : decode cX6_judge 84 = .ok (.idiv, 1) := by decide +kernel
theorem dX6_judge_85 : decode cX6_judge 85 = .ok (.iload 5, 2) := by decide +kernel
theorem dX6_judge_87 : decode cX6_judge 87 = .ok (.bipush 100, 2) := by decide +kernel
theorem dX6_judge_89 : decode cX6_judge 89 = .ok (.idiv, 1) := by decide +kernel
theorem dX6_judge_90 : decode cX6_judge 90 = .ok (.bipush 10, 2) := by decide +kernel
theorem dX6_judge_92 : decode cX6_judge 92 = .ok (.irem, 1) := by decide +kernel
theorem dX6_judge_93 : decode cX6_judge 93 = .ok (.iload 5, 2) := by decide +kernel
theorem dX6_judge_95 : decode cX6_judge 95 = .ok (.bipush 100, 2) := by decide +kernel
theorem dX6_judge_97 : decode cX6_judge 97 = .ok (.irem, 1) := by decide +kernel
theorem dX6_judge_98 : decode cX6_judge 98 = .ok (.invokevirtual 225, 3) := by decide +kernel
theorem dX6_judge_101 : decode cX6_judge 101 = .ok (.ifCond .ne 6, 3) := by decide +kernel
theorem dX6_judge_104 : decode cX6_judge 104 = .ok (.iload 4, 2) := by decide +kernel
theorem dX6_judge_106 : decode cX6_judge 106 = .ok (.ireturn, 1) := by decide +kernel
theorem dX6_judge_107 : decode cX6_judge 107 = .ok (.iinc 4 1, 3) := by decide +kernel
theorem dX6_judge_110 : decode cX6_judge 110 = .ok (.goto (-59), 3) := by decide +kernel
theorem dX6_judge_113 : decode cX6_judge 113 = .ok (.bipush (-9), 2) := by decide +kernel
theorem dX6_judge_115 : decode cX6_judge 115 = .ok (.ireturn, 1) := by decide +kernel
theorem dX6_factorial_0 : decode cX6_factorial 0 = .ok (.iconst 1, 1) := by decide +kernel
theorem dX6_factorial_1 : decode cX6_factorial 1 = .ok (.istore_n 1, 1) := by decide +kernel
theorem dX6_factorial_2 : decode cX6_factorial 2 = .ok (.iconst 2, 1) := by decide +kernel
theorem dX6_factorial_3 : decode cX6_factorial 3 = .ok (.istore_n 2, 1) := by decide +kernel
theorem dX6_factorial_4 : decode cX6_factorial 4 = .ok (.iload_n 2, 1) := by decide +kernel
theorem dX6_factorial_5 : decode cX6_factorial 5 = .ok (.iload_n 0, 1) := by decide +kernel
theorem dX6_factorial_6 : decode cX6_factorial 6 = .ok (.if_icmp .gt 13, 3) := by decide +kernel
theorem dX6_factorial_9 : decode cX6_factorial 9 = .ok (.iload_n 1, 1) := by decide +kernel
theorem dX6_factorial_10 : decode cX6_factorial 10 = .ok (.iload_n 2, 1) := by decide +kernel
theorem dX6_factorial_11 : decode cX6_factorial 11 = .ok (.imul, 1) := by decide +kernel
theorem dX6_factorial_12 : decode cX6_factorial 12 = .ok (.istore_n 1, 1) := by decide +kernel
theorem dX6_factorial_13 : decode cX6_factorial 13 = .ok (.iinc 2 1, 3) := by decide +kernel
theorem dX6_factorial_16 : decode cX6_factorial 16 = .ok (.goto (-12), 3) := by decide +kernel
theorem dX6_factorial_19 : decode cX6_factorial 19 = .ok (.iload_n 1, 1) := by decide +kernel
theorem dX6_factorial_20 : decode cX6_factorial 20 = .ok (.ireturn, 1) := by decide +kernel
theorem dX6_share_0 : decode cX6_share 0 = .ok (.aload_n 0, 1) := by decide +kernel
theorem dX6_share_1 : decode cX6_share 1 = .ok (.iconst 0, 1) := by decide +kernel
theorem dX6_share_2 : decode cX6_share 2 = .ok (.putfield 1, 3) := by decide +kernel
theorem dX6_share_5 : decode cX6_share 5 = .ok (.aload_n 0, 1) := by decide +kernel
theorem dX6_share_6 : decode cX6_share 6 = .ok (.iload_n 1, 1) := by decide +kernel
theorem dX6_share_7 : decode cX6_share 7 = .ok (.invokevirtual 102, 3) := by decide +kernel
theorem dX6_share_10 : decode cX6_share 10 = .ok (.ifCond .eq 5, 3) := by decide +kernel
theorem dX6_share_13 : decode cX6_share 13 = .ok (.iconst (-1), 1) := by decide +kernel
theorem dX6_share_14 : decode cX6_share 14 = .ok (.ireturn, 1) := by decide +kernel
theorem dX6_share_15 : decode cX6_share 15 = .ok (.aload_n 0, 1) := by decide +kernel
theorem dX6_share_16 : decode cX6_share 16 = .ok (.getfield 23, 3) := by decide +kernel
theorem dX6_share_19 : decode cX6_share 19 = .ok (.iconst 1, 1) := by decide +kernel
theorem dX6_share_20 : decode cX6_share 20 = .ok (.iaload, 1) := by decide +kernel
theorem dX6_share_21 : decode cX6_share 21 = .ok (.istore 4, 2) := by decide +kernel
theorem dX6_share_23 : decode cX6_share 23 = .ok (.lconst 0, 1) := by decide +kernel
theorem dX6_share_24 : decode cX6_share 24 = .ok (.lstore 5, 2) := by decide +kernel
theorem dX6_share_26 : decode cX6_share 26 = .ok (.iconst 0, 1) := by decide +kernel
theorem dX6_share_27 : decode cX6_share 27 = .ok (.istore 7, 2) := by decide +kernel
theorem dX6_share_29 : decode cX6_share 29 = .ok (.iload 7, 2) := by decide +kernel
theorem dX6_share_31 : decode cX6_share 31 = .ok (.iconst 1, 1) := by decide +kernel
theorem dX6_share_32 : decode cX6_share 32 = .ok (.iload 4, 2) := by decide +kernel
theorem dX6_share_34 : decode cX6_share 34 = .ok (.ishl, 1) := by decide +kernel
theorem dX6_share_35 : decode cX6_share 35 = .ok (.if_icmp .ge 81, 3) := by decide +kernel
theorem dX6_share_38 : decode cX6_share 38 = .ok (.iload 7, 2) := by decide +kernel
theorem dX6_share_40 : decode cX6_share 40 = .ok (.iload_n 1, 1) := by decide +kernel
theorem dX6_share_41 : decode cX6_share 41 = .ok (.invokestatic 136, 3) := by decide +kernel
theorem dX6_share_44 : decode cX6_share 44 = .ok (.ifCond .ne 66, 3) := by decide +kernel
theorem dX6_share_47 : decode cX6_share 47 = .ok (.iload 7, 2) := by decide +kernel
theorem dX6_share_49 : decode cX6_share 49 = .ok (.invokestatic 158, 3) := by decide +kernel
theorem dX6_share_52 : decode cX6_share 52 = .ok (.istore 8, 2) := by decide +kernel
theorem dX6_share_54 : decode cX6_share 54 = .ok (.aload_n 0, 1) := by decide +kernel
theorem dX6_share_55 : decode cX6_share 55 = .ok (.aload_n 0, 1) := by decide +kernel
theorem dX6_share_56 : decode cX6_share 56 = .ok (.getfield 23, 3) := by decide +kernel
theorem dX6_share_59 : decode cX6_share 59 = .ok (.iload 7, 2) := by decide +kernel
theorem dX6_share_61 : decode cX6_share 61 = .ok (.iconst 1, 1) := by decide +kernel
theorem dX6_share_62 : decode cX6_share 62 = .ok (.iload_n 1, 1) := by decide +kernel
theorem dX6_share_63 : decode cX6_share 63 = .ok (.ishl, 1) := by decide +kernel
theorem dX6_share_64 : decode cX6_share 64 = .ok (.ior, 1) := by decide +kernel
theorem dX6_share_65 : decode cX6_share 65 = .ok (.iload_n 2, 1) := by decide +kernel
theorem dX6_share_66 : decode cX6_share 66 = .ok (.invokevirtual 184, 3) := by decide +kernel
theorem dX6_share_69 : decode cX6_share 69 = .ok (.aload_n 0, 1) := by decide +kernel
theorem dX6_share_70 : decode cX6_share 70 = .ok (.aload_n 0, 1) := by decide +kernel
theorem dX6_share_71 : decode cX6_share 71 = .ok (.getfield 23, 3) := by decide +kernel
theorem dX6_share_74 : decode cX6_share 74 = .ok (.iload 7, 2) := by decide +kernel
theorem dX6_share_76 : decode cX6_share 76 = .ok (.iload_n 2, 1) := by decide +kernel
theorem dX6_share_77 : decode cX6_share 77 = .ok (.invokevirtual 184, 3) := by decide +kernel
theorem dX6_share_80 : decode cX6_share 80 = .ok (.isub, 1) := by decide +kernel
theorem dX6_share_81 : decode cX6_share 81 = .ok (.istore 9, 2) := by decide +kernel
theorem dX6_share_83 : decode cX6_share 83 = .ok (.lload 5, 2) := by decide +kernel
theorem dX6_share_85 : decode cX6_share 85 = .ok (.iload 8, 2) := by decide +kernel
theorem dX6_share_87 : decode cX6_share 87 = .ok (.invokestatic 229, 3) := by decide +kernel
theorem dX6_share_90 : decode cX6_share 90 = .ok (.i2l, 1) := by decide +kernel
theorem dX6_share_91 : decode cX6_share 91 = .ok (.iload 4, 2) := by decide +kernel
theorem dX6_share_93 : decode cX6_share 93 = .ok (.iconst 1, 1) := by decide +kernel
theorem dX6_share_94 : decode cX6_share 94 = .ok (.isub, 1) := by decide +kernel
theorem dX6_share_95 : decode cX6_share 95 = .ok (.iload 8, 2) := by decide +kernel
theorem dX6_share_97 : decode cX6_share 97 = .ok (.isub, 1) := by decide +kernel
theorem dX6_share_98 : decode cX6_share 98 = .ok (.invokestatic 229, 3) := by decide +kernel
theorem dX6_share_101 : decode cX6_share 101 = .ok (.i2l, 1) := by decide +kernel
theorem dX6_share_102 : decode cX6_share 102 = .ok (.lmul, 1) := by decide +kernel
theorem dX6_share_103 : decode cX6_share 103 = .ok (.iload 9, 2) := by decide +kernel
theorem dX6_share_105 : decode cX6_share 105 = .ok (.i2l, 1) := by decide +kernel
theorem dX6_share_106 : decode cX6_share 106 = .ok (.lmul, 1) := by decide +kernel
theorem dX6_share_107 : decode cX6_share 107 = .ok (.ladd, 1) := by decide +kernel
theorem dX6_share_108 : decode cX6_share 108 = .ok (.lstore 5, 2) := by decide +kernel
theorem dX6_share_110 : decode cX6_share 110 = .ok (.iinc 7 1, 3) := by decide +kernel
theorem dX6_share_113 : decode cX6_share 113 = .ok (.goto (-84), 3) := by decide +kernel
theorem dX6_share_116 : decode cX6_share 116 = .ok (.aload_n 0, 1) := by decide +kernel
theorem dX6_share_117 : decode cX6_share 117 = .ok (.lload 5, 2) := by decide +kernel
theorem dX6_share_119 : decode cX6_share 119 = .ok (.iload 4, 2) := by decide +kernel
theorem dX6_share_121 : decode cX6_share 121 = .ok (.invokestatic 229, 3) := by decide +kernel
theorem dX6_share_124 : decode cX6_share 124 = .ok (.i2l, 1) := by decide +kernel
theorem dX6_share_125 : decode cX6_share 125 = .ok (.invokevirtual 176, 3) := by decide +kernel
theorem dX6_share_128 : decode cX6_share 128 = .ok (.aload_n 0, 1) := by decide +kernel
theorem dX6_share_129 : decode cX6_share 129 = .ok (.iload_n 3, 1) := by decide +kernel
theorem dX6_share_130 : decode cX6_share 130 = .ok (.invokevirtual 200, 3) := by decide +kernel
theorem dX6_share_133 : decode cX6_share 133 = .ok (.l2i, 1) := by decide +kernel
theorem dX6_share_134 : decode cX6_share 134 = .ok (.ireturn, 1) := by decide +kernel
theorem dX6_lost_0 : decode cX6_lost 0 = .ok (.aload_n 0, 1) := by decide +kernel
theorem dX6_lost_1 : decode cX6_lost 1 = .ok (.iconst 0, 1) := by decide +kernel
theorem dX6_lost_2 : decode cX6_lost 2 = .ok (.putfield 1, 3) := by decide +kernel
theorem dX6_lost_5 : decode cX6_lost 5 = .ok (.iload_n 1, 1) := by decide +kernel
theorem dX6_lost_6 : decode cX6_lost 6 = .ok (.i2l, 1) := by decide +kernel
theorem dX6_lost_7 : decode cX6_lost 7 = .ok (.lconst 0, 1) := by decide +kernel
theorem dX6_lost_8 : decode cX6_lost 8 = .ok (.ldc2_w 232, 3) := by decide +kernel
theorem dX6_lost_11 : decode cX6_lost 11 = .ok (.invokestatic 61, 3) := by decide +kernel
theorem dX6_lost_14 : decode cX6_lost 14 = .ok (.ifCond .ne 6, 3) := by decide +kernel
theorem dX6_lost_17 : decode cX6_lost 17 = .ok (.bipush (-2), 2) := by decide +kernel
theorem dX6_lost_19 : decode cX6_lost 19 = .ok (.ireturn, 1) := by decide +kernel
theorem dX6_lost_20 : decode cX6_lost 20 = .ok (.aload_n 0, 1) := by decide +kernel
theorem dX6_lost_21 : decode cX6_lost 21 = .ok (.getfield 23, 3) := by decide +kernel
theorem dX6_lost_24 : decode cX6_lost 24 = .ok (.iconst 1, 1) := by decide +kernel
theorem dX6_lost_25 : decode cX6_lost 25 = .ok (.iaload, 1) := by decide +kernel
theorem dX6_lost_26 : decode cX6_lost 26 = .ok (.istore 4, 2) := by decide +kernel
theorem dX6_lost_28 : decode cX6_lost 28 = .ok (.lconst 0, 1) := by decide +kernel
theorem dX6_lost_29 : decode cX6_lost 29 = .ok (.lstore 5, 2) := by decide +kernel
theorem dX6_lost_31 : decode cX6_lost 31 = .ok (.iconst 0, 1) := by decide +kernel
theorem dX6_lost_32 : decode cX6_lost 32 = .ok (.istore 7, 2) := by decide +kernel
theorem dX6_lost_34 : decode cX6_lost 34 = .ok (.iload 7, 2) := by decide +kernel
theorem dX6_lost_36 : decode cX6_lost 36 = .ok (.iconst 1, 1) := by decide +kernel
theorem dX6_lost_37 : decode cX6_lost 37 = .ok (.iload 4, 2) := by decide +kernel
theorem dX6_lost_39 : decode cX6_lost 39 = .ok (.ishl, 1) := by decide +kernel
theorem dX6_lost_40 : decode cX6_lost 40 = .ok (.if_icmp .ge 59, 3) := by decide +kernel
theorem dX6_lost_43 : decode cX6_lost 43 = .ok (.iload 7, 2) := by decide +kernel
theorem dX6_lost_45 : decode cX6_lost 45 = .ok (.invokestatic 158, 3) := by decide +kernel
theorem dX6_lost_48 : decode cX6_lost 48 = .ok (.istore 8, 2) := by decide +kernel
theorem dX6_lost_50 : decode cX6_lost 50 = .ok (.lload 5, 2) := by decide +kernel
theorem dX6_lost_52 : decode cX6_lost 52 = .ok (.aload_n 0, 1) := by decide +kernel
theorem dX6_lost_53 : decode cX6_lost 53 = .ok (.aload_n 0, 1) := by decide +kernel
theorem dX6_lost_54 : decode cX6_lost 54 = .ok (.getfield 23, 3) := by decide +kernel
theorem dX6_lost_57 : decode cX6_lost 57 = .ok (.iload 7, 2) := by decide +kernel
theorem dX6_lost_59 : decode cX6_lost 59 = .ok (.iload_n 2, 1) := by decide +kernel
theorem dX6_lost_60 : decode cX6_lost 60 = .ok (.invokevirtual 194, 3) := by decide +kernel
theorem dX6_lost_63 : decode cX6_lost 63 = .ok (.ifCond .eq 26, 3) := by decide +kernel
theorem dX6_lost_66 : decode cX6_lost 66 = .ok (.iload_n 1, 1) := by decide +kernel
theorem dX6_lost_67 : decode cX6_lost 67 = .ok (.iload 4, 2) := by decide +kernel
theorem dX6_lost_69 : decode cX6_lost 69 = .ok (.iload 8, 2) := by decide +kernel
theorem dX6_lost_71 : decode cX6_lost 71 = .ok (.isub, 1) := by decide +kernel
theorem dX6_lost_72 : decode cX6_lost 72 = .ok (.invokestatic 106, 3) := by decide +kernel
theorem dX6_lost_75 : decode cX6_lost 75 = .ok (.bipush 10, 2) := by decide +kernel
theorem dX6_lost_77 : decode cX6_lost 77 = .ok (.iload_n 1, 1) := by decide +kernel
theorem dX6_lost_78 : decode cX6_lost 78 = .ok (.isub, 1) := by decide +kernel
theorem dX6_lost_79 : decode cX6_lost 79 = .ok (.iload 8, 2) := by decide +kernel
theorem dX6_lost_81 : decode cX6_lost 81 = .ok (.invokestatic 106, 3) := by decide +kernel
theorem dX6_lost_84 : decode cX6_lost 84 = .ok (.imul, 1) := by decide +kernel
theorem dX6_lost_85 : decode cX6_lost 85 = .ok (.i2l, 1) := by decide +kernel
theorem dX6_lost_86 : decode cX6_lost 86 = .ok (.goto 4, 3) := by decide +kernel
theorem dX6_lost_89 : decode cX6_lost 89 = .ok (.lconst 0, 1) := by decide +kernel
theorem dX6_lost_90 : decode cX6_lost 90 = .ok (.ladd, 1) := by decide +kernel
theorem dX6_lost_91 : decode cX6_lost 91 = .ok (.lstore 5, 2) := by decide +kernel
theorem dX6_lost_93 : decode cX6_lost 93 = .ok (.iinc 7 1, 3) := by decide +kernel
theorem dX6_lost_96 : decode cX6_lost 96 = .ok (.goto (-62), 3) := by decide +kernel
theorem dX6_lost_99 : decode cX6_lost 99 = .ok (.aload_n 0, 1) := by decide +kernel
theorem dX6_lost_100 : decode cX6_lost 100 = .ok (.lload 5, 2) := by decide +kernel
theorem dX6_lost_102 : decode cX6_lost 102 = .ok (.bipush 10, 2) := by decide +kernel
theorem dX6_lost_104 : decode cX6_lost 104 = .ok (.iload 4, 2) := by decide +kernel
theorem dX6_lost_106 : decode cX6_lost 106 = .ok (.invokestatic 106, 3) := by decide +kernel
theorem dX6_lost_109 : decode cX6_lost 109 = .ok (.i2l, 1) := by decide +kernel
theorem dX6_lost_110 : decode cX6_lost 110 = .ok (.invokevirtual 176, 3) := by decide +kernel
theorem dX6_lost_113 : decode cX6_lost 113 = .ok (.aload_n 0, 1) := by decide +kernel
theorem dX6_lost_114 : decode cX6_lost 114 = .ok (.iload_n 3, 1) := by decide +kernel
theorem dX6_lost_115 : decode cX6_lost 115 = .ok (.invokevirtual 200, 3) := by decide +kernel
theorem dX6_lost_118 : decode cX6_lost 118 = .ok (.l2i, 1) := by decide +kernel
theorem dX6_lost_119 : decode cX6_lost 119 = .ok (.ireturn, 1) := by decide +kernel
theorem dX6_seed_0 : decode cX6_seed 0 = .ok (.aload_n 0, 1) := by decide +kernel
theorem dX6_seed_1 : decode cX6_seed 1 = .ok (.iconst 0, 1) := by decide +kernel
theorem dX6_seed_2 : decode cX6_seed 2 = .ok (.putfield 1, 3) := by decide +kernel
theorem dX6_seed_5 : decode cX6_seed 5 = .ok (.aload_n 0, 1) := by decide +kernel
theorem dX6_seed_6 : decode cX6_seed 6 = .ok (.getfield 234, 3) := by decide +kernel
theorem dX6_seed_9 : decode cX6_seed 9 = .ok (.lstore_n 3, 1) := by decide +kernel
theorem dX6_seed_10 : decode cX6_seed 10 = .ok (.aload_n 0, 1) := by decide +kernel
theorem dX6_seed_11 : decode cX6_seed 11 = .ok (.lload_n 1, 1) := by decide +kernel
theorem dX6_seed_12 : decode cX6_seed 12 = .ok (.putfield 234, 3) := by decide +kernel
theorem dX6_seed_15 : decode cX6_seed 15 = .ok (.lload_n 3, 1) := by decide +kernel
theorem dX6_seed_16 : decode cX6_seed 16 = .ok (.lreturn, 1) := by decide +kernel
theorem dX6_drawn_0 : decode cX6_drawn 0 = .ok (.aload_n 0, 1) := by decide +kernel
theorem dX6_drawn_1 : decode cX6_drawn 1 = .ok (.iconst 0, 1) := by decide +kernel
theorem dX6_drawn_2 : decode cX6_drawn 2 = .ok (.putfield 1, 3) := by decide +kernel
theorem dX6_drawn_5 : decode cX6_drawn 5 = .ok (.iload_n 1, 1) := by decide +kernel
theorem dX6_drawn_6 : decode cX6_drawn 6 = .ok (.i2l, 1) := by decide +kernel
theorem dX6_drawn_7 : decode cX6_drawn 7 = .ok (.lconst 1, 1) := by decide +kernel
theorem dX6_drawn_8 : decode cX6_drawn 8 = .ok (.ldc2_w 237, 3) := by decide +kernel
theorem dX6_drawn_11 : decode cX6_drawn 11 = .ok (.invokestatic 61, 3) := by decide +kernel
theorem dX6_drawn_14 : decode cX6_drawn 14 = .ok (.ifCond .ne 6, 3) := by decide +kernel
theorem dX6_drawn_17 : decode cX6_drawn 17 = .ok (.bipush (-2), 2) := by decide +kernel
theorem dX6_drawn_19 : decode cX6_drawn 19 = .ok (.ireturn, 1) := by decide +kernel
theorem dX6_drawn_20 : decode cX6_drawn 20 = .ok (.aload_n 0, 1) := by decide +kernel
theorem dX6_drawn_21 : decode cX6_drawn 21 = .ok (.aload_n 0, 1) := by decide +kernel
theorem dX6_drawn_22 : decode cX6_drawn 22 = .ok (.getfield 23, 3) := by decide +kernel
theorem dX6_drawn_25 : decode cX6_drawn 25 = .ok (.iconst 0, 1) := by decide +kernel
theorem dX6_drawn_26 : decode cX6_drawn 26 = .ok (.invokevirtual 210, 3) := by decide +kernel
theorem dX6_drawn_29 : decode cX6_drawn 29 = .ok (.istore_n 2, 1) := by decide +kernel
theorem dX6_drawn_30 : decode cX6_drawn 30 = .ok (.iconst 0, 1) := by decide +kernel
theorem dX6_drawn_31 : decode cX6_drawn 31 = .ok (.istore_n 3, 1) := by decide +kernel
theorem dX6_drawn_32 : decode cX6_drawn 32 = .ok (.iconst 0, 1) := by decide +kernel
theorem dX6_drawn_33 : decode cX6_drawn 33 = .ok (.istore 4, 2) := by decide +kernel
theorem dX6_drawn_35 : decode cX6_drawn 35 = .ok (.iload 4, 2) := by decide +kernel
theorem dX6_drawn_37 : decode cX6_drawn 37 = .ok (.iload_n 1, 1) := by decide +kernel
theorem dX6_drawn_38 : decode cX6_drawn 38 = .ok (.if_icmp .ge 125, 3) := by decide +kernel
theorem dX6_drawn_41 : decode cX6_drawn 41 = .ok (.aload_n 0, 1) := by decide +kernel
theorem dX6_drawn_42 : decode cX6_drawn 42 = .ok (.aload_n 0, 1) := by decide +kernel
theorem dX6_drawn_43 : decode cX6_drawn 43 = .ok (.getfield 234, 3) := by decide +kernel
theorem dX6_drawn_46 : decode cX6_drawn 46 = .ok (.ldc2_w 239, 3) := by decide +kernel
theorem dX6_drawn_49 : decode cX6_drawn 49 = .ok (.lmul, 1) := by decide +kernel
theorem dX6_drawn_50 : decode cX6_drawn 50 = .ok (.ldc2_w 241, 3) := by decide +kernel
theorem dX6_drawn_53 : decode cX6_drawn 53 = .ok (.ladd, 1) := by decide +kernel
theorem dX6_drawn_54 : decode cX6_drawn 54 = .ok (.putfield 234, 3) := by decide +kernel
theorem dX6_drawn_57 : decode cX6_drawn 57 = .ok (.aload_n 0, 1) := by decide +kernel
theorem dX6_drawn_58 : decode cX6_drawn 58 = .ok (.getfield 234, 3) := by decide +kernel
theorem dX6_drawn_61 : decode cX6_drawn 61 = .ok (.bipush 33, 2) := by decide +kernel
theorem dX6_drawn_63 : decode cX6_drawn 63 = .ok (.lushr, 1) := by decide +kernel
theorem dX6_drawn_64 : decode cX6_drawn 64 = .ok (.l2i, 1) := by decide +kernel
theorem dX6_drawn_65 : decode cX6_drawn 65 = .ok (.istore 5, 2) := by decide +kernel
theorem dX6_drawn_67 : decode cX6_drawn 67 = .ok (.aload_n 0, 1) := by decide +kernel
theorem dX6_drawn_68 : decode cX6_drawn 68 = .ok (.getfield 23, 3) := by decide +kernel
theorem dX6_drawn_71 : decode cX6_drawn 71 = .ok (.aload_n 0, 1) := by decide +kernel
theorem dX6_drawn_72 : decode cX6_drawn 72 = .ok (.getfield 29, 3) := by decide +kernel
theorem dX6_drawn_75 : decode cX6_drawn 75 = .ok (.invokestatic 95, 3) := by decide +kernel
theorem dX6_drawn_78 : decode cX6_drawn 78 = .ok (.iconst 0, 1) := by decide +kernel
theorem dX6_drawn_79 : decode cX6_drawn 79 = .ok (.istore 6, 2) := by decide +kernel
theorem dX6_drawn_81 : decode cX6_drawn 81 = .ok (.iload 6, 2) := by decide +kernel
theorem dX6_drawn_83 : decode cX6_drawn 83 = .ok (.aload_n 0, 1) := by decide +kernel
theorem dX6_drawn_84 : decode cX6_drawn 84 = .ok (.getfield 29, 3) := by decide +kernel
theorem dX6_drawn_87 : decode cX6_drawn 87 = .ok (.iconst 1, 1) := by decide +kernel
theorem dX6_drawn_88 : decode cX6_drawn 88 = .ok (.iaload, 1) := by decide +kernel
theorem dX6_drawn_89 : decode cX6_drawn 89 = .ok (.if_icmp .ge 47, 3) := by decide +kernel
theorem dX6_drawn_92 : decode cX6_drawn 92 = .ok (.iload 5, 2) := by decide +kernel
theorem dX6_drawn_94 : decode cX6_drawn 94 = .ok (.iconst 2, 1) := by decide +kernel
theorem dX6_drawn_95 : decode cX6_drawn 95 = .ok (.iload 6, 2) := by decide +kernel
theorem dX6_drawn_97 : decode cX6_drawn 97 = .ok (.imul, 1) := by decide +kernel
theorem dX6_drawn_98 : decode cX6_drawn 98 = .ok (.ishr, 1) := by decide +kernel
theorem dX6_drawn_99 : decode cX6_drawn 99 = .ok (.iconst 3, 1) := by decide +kernel
theorem dX6_drawn_100 : decode cX6_drawn 100 = .ok (.iand, 1) := by decide +kernel
theorem dX6_drawn_101 : decode cX6_drawn 101 = .ok (.iconst 1, 1) := by decide +kernel
theorem dX6_drawn_102 : decode cX6_drawn 102 = .ok (.isub, 1) := by decide +kernel
theorem dX6_drawn_103 : decode cX6_drawn 103 = .ok (.istore 7, 2) := by decide +kernel
theorem dX6_drawn_105 : decode cX6_drawn 105 = .ok (.aload_n 0, 1) := by decide +kernel
theorem dX6_drawn_106 : decode cX6_drawn 106 = .ok (.getfield 29, 3) := by decide +kernel
theorem dX6_drawn_109 : decode cX6_drawn 109 = .ok (.bipush 10, 2) := by decide +kernel
theorem dX6_drawn_111 : decode cX6_drawn 111 = .ok (.iload 6, 2) := by decide +kernel
theorem dX6_drawn_113 : decode cX6_drawn 113 = .ok (.iadd, 1) := by decide +kernel
theorem dX6_drawn_114 : decode cX6_drawn 114 = .ok (.dup2, 1) := by decide +kernel
theorem dX6_drawn_115 : decode cX6_drawn 115 = .ok (.iaload, 1) := by decide +kernel
theorem dX6_drawn_116 : decode cX6_drawn 116 = .ok (.iload 7, 2) := by decide +kernel
theorem dX6_drawn_118 : decode cX6_drawn 118 = .ok (.iconst 2, 1) := by decide +kernel
theorem dX6_drawn_119 : decode cX6_drawn 119 = .ok (.if_icmp .ne 7, 3) := by decide +kernel
theorem dX6_drawn_122 : decode cX6_drawn 122 = .ok (.iconst 0, 1) := by decide +kernel
theorem dX6_drawn_123 : decode cX6_drawn 123 = .ok (.goto 5, 3) := by decide +kernel
theorem dX6_drawn_126 : decode cX6_drawn 126 = .ok (.iload 7, 2) := by decide +kernel
theorem dX6_drawn_128 : decode cX6_drawn 128 = .ok (.iadd, 1) := by decide +kernel
theorem dX6_drawn_129 : decode cX6_drawn 129 = .ok (.iastore, 1) := by decide +kernel
theorem dX6_drawn_130 : decode cX6_drawn 130 = .ok (.iinc 6 1, 3) := by decide +kernel
theorem dX6_drawn_133 : decode cX6_drawn 133 = .ok (.goto (-52), 3) := by decide +kernel
theorem dX6_drawn_136 : decode cX6_drawn 136 = .ok (.iload_n 3, 1) := by decide +kernel
theorem dX6_drawn_137 : decode cX6_drawn 137 = .ok (.aload_n 0, 1) := by decide +kernel
theorem dX6_drawn_138 : decode cX6_drawn 138 = .ok (.aload_n 0, 1) := by decide +kernel
theorem dX6_drawn_139 : decode cX6_drawn 139 = .ok (.getfield 29, 3) := by decide +kernel
theorem dX6_drawn_142 : decode cX6_drawn 142 = .ok (.iconst 0, 1) := by decide +kernel
theorem dX6_drawn_143 : decode cX6_drawn 143 = .ok (.invokevirtual 210, 3) := by decide +kernel
theorem dX6_drawn_146 : decode cX6_drawn 146 = .ok (.iload_n 2, 1) := by decide +kernel
theorem dX6_drawn_147 : decode cX6_drawn 147 = .ok (.if_icmp .ne 7, 3) := by decide +kernel
theorem dX6_drawn_150 : decode cX6_drawn 150 = .ok (.iconst 1, 1) := by decide +kernel
theorem dX6_drawn_151 : decode cX6_drawn 151 = .ok (.goto 4, 3) := by decide +kernel
theorem dX6_drawn_154 : decode cX6_drawn 154 = .ok (.iconst 0, 1) := by decide +kernel
theorem dX6_drawn_155 : decode cX6_drawn 155 = .ok (.iadd, 1) := by decide +kernel
theorem dX6_drawn_156 : decode cX6_drawn 156 = .ok (.istore_n 3, 1) := by decide +kernel
theorem dX6_drawn_157 : decode cX6_drawn 157 = .ok (.iinc 4 1, 3) := by decide +kernel
theorem dX6_drawn_160 : decode cX6_drawn 160 = .ok (.goto (-125), 3) := by decide +kernel
theorem dX6_drawn_163 : decode cX6_drawn 163 = .ok (.iload_n 3, 1) := by decide +kernel
theorem dX6_drawn_164 : decode cX6_drawn 164 = .ok (.ireturn, 1) := by decide +kernel
theorem dX6_keep_0 : decode cX6_keep 0 = .ok (.aload_n 0, 1) := by decide +kernel
theorem dX6_keep_1 : decode cX6_keep 1 = .ok (.iconst 0, 1) := by decide +kernel
theorem dX6_keep_2 : decode cX6_keep 2 = .ok (.putfield 1, 3) := by decide +kernel
theorem dX6_keep_5 : decode cX6_keep 5 = .ok (.iload_n 1, 1) := by decide +kernel
theorem dX6_keep_6 : decode cX6_keep 6 = .ok (.i2l, 1) := by decide +kernel
theorem dX6_keep_7 : decode cX6_keep 7 = .ok (.lconst 0, 1) := by decide +kernel
theorem dX6_keep_8 : decode cX6_keep 8 = .ok (.lconst 1, 1) := by decide +kernel
theorem dX6_keep_9 : decode cX6_keep 9 = .ok (.invokestatic 61, 3) := by decide +kernel
theorem dX6_keep_12 : decode cX6_keep 12 = .ok (.ifCond .ne 5, 3) := by decide +kernel
theorem dX6_keep_15 : decode cX6_keep 15 = .ok (.iconst (-1), 1) := by decide +kernel
theorem dX6_keep_16 : decode cX6_keep 16 = .ok (.ireturn, 1) := by decide +kernel
theorem dX6_keep_17 : decode cX6_keep 17 = .ok (.aload_n 0, 1) := by decide +kernel
theorem dX6_keep_18 : decode cX6_keep 18 = .ok (.getfield 38, 3) := by decide +kernel
theorem dX6_keep_21 : decode cX6_keep 21 = .ok (.iload_n 1, 1) := by decide +kernel
theorem dX6_keep_22 : decode cX6_keep 22 = .ok (.iconst 1, 1) := by decide +kernel
theorem dX6_keep_23 : decode cX6_keep 23 = .ok (.bastore, 1) := by decide +kernel
theorem dX6_keep_24 : decode cX6_keep 24 = .ok (.iconst 0, 1) := by decide +kernel
theorem dX6_keep_25 : decode cX6_keep 25 = .ok (.istore_n 2, 1) := by decide +kernel
theorem dX6_keep_26 : decode cX6_keep 26 = .ok (.iload_n 2, 1) := by decide +kernel
theorem dX6_keep_27 : decode cX6_keep 27 = .ok (.bipush 18, 2) := by decide +kernel
theorem dX6_keep_29 : decode cX6_keep 29 = .ok (.if_icmp .ge 26, 3) := by decide +kernel
theorem dX6_keep_32 : decode cX6_keep 32 = .ok (.aload_n 0, 1) := by decide +kernel
theorem dX6_keep_33 : decode cX6_keep 33 = .ok (.getfield 35, 3) := by decide +kernel
theorem dX6_keep_36 : decode cX6_keep 36 = .ok (.bipush 18, 2) := by decide +kernel
theorem dX6_keep_38 : decode cX6_keep 38 = .ok (.iload_n 1, 1) := by decide +kernel
theorem dX6_keep_39 : decode cX6_keep 39 = .ok (.imul, 1) := by decide +kernel
theorem dX6_keep_40 : decode cX6_keep 40 = .ok (.iload_n 2, 1) := by decide +kernel
theorem dX6_keep_41 : decode cX6_keep 41 = .ok (.iadd, 1) := by decide +kernel
theorem dX6_keep_42 : decode cX6_keep 42 = .ok (.aload_n 0, 1) := by decide +kernel
theorem dX6_keep_43 : decode cX6_keep 43 = .ok (.getfield 23, 3) := by decide +kernel
theorem dX6_keep_46 : decode cX6_keep 46 = .ok (.iload_n 2, 1) := by decide +kernel
theorem dX6_keep_47 : decode cX6_keep 47 = .ok (.iaload, 1) := by decide +kernel
theorem dX6_keep_48 : decode cX6_keep 48 = .ok (.iastore, 1) := by decide +kernel
theorem dX6_keep_49 : decode cX6_keep 49 = .ok (.iinc 2 1, 3) := by decide +kernel
theorem dX6_keep_52 : decode cX6_keep 52 = .ok (.goto (-26), 3) := by decide +kernel
theorem dX6_keep_55 : decode cX6_keep 55 = .ok (.aload_n 0, 1) := by decide +kernel
theorem dX6_keep_56 : decode cX6_keep 56 = .ok (.getfield 23, 3) := by decide +kernel
theorem dX6_keep_59 : decode cX6_keep 59 = .ok (.iconst 1, 1) := by decide +kernel
theorem dX6_keep_60 : decode cX6_keep 60 = .ok (.iaload, 1) := by decide +kernel
theorem dX6_keep_61 : decode cX6_keep 61 = .ok (.ireturn, 1) := by decide +kernel
theorem dX6_again_0 : decode cX6_again 0 = .ok (.aload_n 0, 1) := by decide +kernel
theorem dX6_again_1 : decode cX6_again 1 = .ok (.iconst 0, 1) := by decide +kernel
theorem dX6_again_2 : decode cX6_again 2 = .ok (.putfield 1, 3) := by decide +kernel
theorem dX6_again_5 : decode cX6_again 5 = .ok (.iload_n 1, 1) := by decide +kernel
theorem dX6_again_6 : decode cX6_again 6 = .ok (.i2l, 1) := by decide +kernel
theorem dX6_again_7 : decode cX6_again 7 = .ok (.lconst 0, 1) := by decide +kernel
theorem dX6_again_8 : decode cX6_again 8 = .ok (.lconst 1, 1) := by decide +kernel
theorem dX6_again_9 : decode cX6_again 9 = .ok (.invokestatic 61, 3) := by decide +kernel
theorem dX6_again_12 : decode cX6_again 12 = .ok (.ifCond .ne 5, 3) := by decide +kernel
theorem dX6_again_15 : decode cX6_again 15 = .ok (.iconst (-1), 1) := by decide +kernel
theorem dX6_again_16 : decode cX6_again 16 = .ok (.ireturn, 1) := by decide +kernel
theorem dX6_again_17 : decode cX6_again 17 = .ok (.aload_n 0, 1) := by decide +kernel
theorem dX6_again_18 : decode cX6_again 18 = .ok (.getfield 38, 3) := by decide +kernel
theorem dX6_again_21 : decode cX6_again 21 = .ok (.iload_n 1, 1) := by decide +kernel
theorem dX6_again_22 : decode cX6_again 22 = .ok (.baload, 1) := by decide +kernel
theorem dX6_again_23 : decode cX6_again 23 = .ok (.ifCond .ne 6, 3) := by decide +kernel
theorem dX6_again_26 : decode cX6_again 26 = .ok (.bipush (-3), 2) := by decide +kernel
theorem dX6_again_28 : decode cX6_again 28 = .ok (.ireturn, 1) := by decide +kernel
theorem dX6_again_29 : decode cX6_again 29 = .ok (.iconst 0, 1) := by decide +kernel
theorem dX6_again_30 : decode cX6_again 30 = .ok (.istore_n 2, 1) := by decide +kernel
theorem dX6_again_31 : decode cX6_again 31 = .ok (.iload_n 2, 1) := by decide +kernel
theorem dX6_again_32 : decode cX6_again 32 = .ok (.bipush 18, 2) := by decide +kernel
theorem dX6_again_34 : decode cX6_again 34 = .ok (.if_icmp .ge 26, 3) := by decide +kernel
theorem dX6_again_37 : decode cX6_again 37 = .ok (.aload_n 0, 1) := by decide +kernel
theorem dX6_again_38 : decode cX6_again 38 = .ok (.getfield 23, 3) := by decide +kernel
theorem dX6_again_41 : decode cX6_again 41 = .ok (.iload_n 2, 1) := by decide +kernel
theorem dX6_again_42 : decode cX6_again 42 = .ok (.aload_n 0, 1) := by decide +kernel
theorem dX6_again_43 : decode cX6_again 43 = .ok (.getfield 35, 3) := by decide +kernel
theorem dX6_again_46 : decode cX6_again 46 = .ok (.bipush 18, 2) := by decide +kernel
theorem dX6_again_48 : decode cX6_again 48 = .ok (.iload_n 1, 1) := by decide +kernel
theorem dX6_again_49 : decode cX6_again 49 = .ok (.imul, 1) := by decide +kernel
theorem dX6_again_50 : decode cX6_again 50 = .ok (.iload_n 2, 1) := by decide +kernel
theorem dX6_again_51 : decode cX6_again 51 = .ok (.iadd, 1) := by decide +kernel
theorem dX6_again_52 : decode cX6_again 52 = .ok (.iaload, 1) := by decide +kernel
theorem dX6_again_53 : decode cX6_again 53 = .ok (.iastore, 1) := by decide +kernel
theorem dX6_again_54 : decode cX6_again 54 = .ok (.iinc 2 1, 3) := by decide +kernel
theorem dX6_again_57 : decode cX6_again 57 = .ok (.goto (-26), 3) := by decide +kernel
theorem dX6_again_60 : decode cX6_again 60 = .ok (.aload_n 0, 1) := by decide +kernel
theorem dX6_again_61 : decode cX6_again 61 = .ok (.iconst 0, 1) := by decide +kernel
theorem dX6_again_62 : decode cX6_again 62 = .ok (.putfield 99, 3) := by decide +kernel
theorem dX6_again_65 : decode cX6_again 65 = .ok (.aload_n 0, 1) := by decide +kernel
theorem dX6_again_66 : decode cX6_again 66 = .ok (.getfield 23, 3) := by decide +kernel
theorem dX6_again_69 : decode cX6_again 69 = .ok (.iconst 1, 1) := by decide +kernel
theorem dX6_again_70 : decode cX6_again 70 = .ok (.iaload, 1) := by decide +kernel
theorem dX6_again_71 : decode cX6_again 71 = .ok (.ireturn, 1) := by decide +kernel
theorem dX6_count_0 : decode cX6_count 0 = .ok (.aload_n 0, 1) := by decide +kernel
theorem dX6_count_1 : decode cX6_count 1 = .ok (.iconst 0, 1) := by decide +kernel
theorem dX6_count_2 : decode cX6_count 2 = .ok (.putfield 1, 3) := by decide +kernel
theorem dX6_count_5 : decode cX6_count 5 = .ok (.iload_n 1, 1) := by decide +kernel
theorem dX6_count_6 : decode cX6_count 6 = .ok (.tableswitch 63 0 4 #[34, 39, 44, 51, 58], 34) := by decide +kernel
theorem dX6_count_40 : decode cX6_count 40 = .ok (.aload_n 0, 1) := by decide +kernel
theorem dX6_count_41 : decode cX6_count 41 = .ok (.getfield 67, 3) := by decide +kernel
theorem dX6_count_44 : decode cX6_count 44 = .ok (.ireturn, 1) := by decide +kernel
theorem dX6_count_45 : decode cX6_count 45 = .ok (.aload_n 0, 1) := by decide +kernel
theorem dX6_count_46 : decode cX6_count 46 = .ok (.getfield 17, 3) := by decide +kernel
theorem dX6_count_49 : decode cX6_count 49 = .ok (.ireturn, 1) := by decide +kernel
theorem dX6_count_50 : decode cX6_count 50 = .ok (.aload_n 0, 1) := by decide +kernel
theorem dX6_count_51 : decode cX6_count 51 = .ok (.getfield 23, 3) := by decide +kernel
theorem dX6_count_54 : decode cX6_count 54 = .ok (.iconst 0, 1) := by decide +kernel
theorem dX6_count_55 : decode cX6_count 55 = .ok (.iaload, 1) := by decide +kernel
theorem dX6_count_56 : decode cX6_count 56 = .ok (.ireturn, 1) := by decide +kernel
theorem dX6_count_57 : decode cX6_count 57 = .ok (.aload_n 0, 1) := by decide +kernel
theorem dX6_count_58 : decode cX6_count 58 = .ok (.getfield 23, 3) := by decide +kernel
theorem dX6_count_61 : decode cX6_count 61 = .ok (.iconst 1, 1) := by decide +kernel
theorem dX6_count_62 : decode cX6_count 62 = .ok (.iaload, 1) := by decide +kernel
theorem dX6_count_63 : decode cX6_count 63 = .ok (.ireturn, 1) := by decide +kernel
theorem dX6_count_64 : decode cX6_count 64 = .ok (.aload_n 0, 1) := by decide +kernel
theorem dX6_count_65 : decode cX6_count 65 = .ok (.getfield 99, 3) := by decide +kernel
theorem dX6_count_68 : decode cX6_count 68 = .ok (.ireturn, 1) := by decide +kernel
theorem dX6_count_69 : decode cX6_count 69 = .ok (.bipush (-2), 2) := by decide +kernel
theorem dX6_count_71 : decode cX6_count 71 = .ok (.ireturn, 1) := by decide +kernel
theorem dJ6_bitCount_0f7a4_0 : decode cJ6_bitCount_0f7a4 0 = .ok (.iload_n 0, 1) := by decide +kernel
theorem dJ6_bitCount_0f7a4_1 : decode cJ6_bitCount_0f7a4 1 = .ok (.iload_n 0, 1) := by decide +kernel
theorem dJ6_bitCount_0f7a4_2 : decode cJ6_bitCount_0f7a4 2 = .ok (.iconst 1, 1) := by decide +kernel
theorem dJ6_bitCount_0f7a4_3 : decode cJ6_bitCount_0f7a4 3 = .ok (.iushr, 1) := by decide +kernel
theorem dJ6_bitCount_0f7a4_4 : decode cJ6_bitCount_0f7a4 4 = .ok (.ldc_w 265, 3) := by decide +kernel
theorem dJ6_bitCount_0f7a4_7 : decode cJ6_bitCount_0f7a4 7 = .ok (.iand, 1) := by decide +kernel
theorem dJ6_bitCount_0f7a4_8 : decode cJ6_bitCount_0f7a4 8 = .ok (.isub, 1) := by decide +kernel
theorem dJ6_bitCount_0f7a4_9 : decode cJ6_bitCount_0f7a4 9 = .ok (.istore_n 0, 1) := by decide +kernel
theorem dJ6_bitCount_0f7a4_10 : decode cJ6_bitCount_0f7a4 10 = .ok (.iload_n 0, 1) := by decide +kernel
theorem dJ6_bitCount_0f7a4_11 : decode cJ6_bitCount_0f7a4 11 = .ok (.ldc_w 266, 3) := by decide +kernel
theorem dJ6_bitCount_0f7a4_14 : decode cJ6_bitCount_0f7a4 14 = .ok (.iand, 1) := by decide +kernel
theorem dJ6_bitCount_0f7a4_15 : decode cJ6_bitCount_0f7a4 15 = .ok (.iload_n 0, 1) := by decide +kernel
theorem dJ6_bitCount_0f7a4_16 : decode cJ6_bitCount_0f7a4 16 = .ok (.iconst 2, 1) := by decide +kernel
theorem dJ6_bitCount_0f7a4_17 : decode cJ6_bitCount_0f7a4 17 = .ok (.iushr, 1) := by decide +kernel
theorem dJ6_bitCount_0f7a4_18 : decode cJ6_bitCount_0f7a4 18 = .ok (.ldc_w 266, 3) := by decide +kernel
theorem dJ6_bitCount_0f7a4_21 : decode cJ6_bitCount_0f7a4 21 = .ok (.iand, 1) := by decide +kernel
theorem dJ6_bitCount_0f7a4_22 : decode cJ6_bitCount_0f7a4 22 = .ok (.iadd, 1) := by decide +kernel
theorem dJ6_bitCount_0f7a4_23 : decode cJ6_bitCount_0f7a4 23 = .ok (.istore_n 0, 1) := by decide +kernel
theorem dJ6_bitCount_0f7a4_24 : decode cJ6_bitCount_0f7a4 24 = .ok (.iload_n 0, 1) := by decide +kernel
theorem dJ6_bitCount_0f7a4_25 : decode cJ6_bitCount_0f7a4 25 = .ok (.iload_n 0, 1) := by decide +kernel
theorem dJ6_bitCount_0f7a4_26 : decode cJ6_bitCount_0f7a4 26 = .ok (.iconst 4, 1) := by decide +kernel
theorem dJ6_bitCount_0f7a4_27 : decode cJ6_bitCount_0f7a4 27 = .ok (.iushr, 1) := by decide +kernel
theorem dJ6_bitCount_0f7a4_28 : decode cJ6_bitCount_0f7a4 28 = .ok (.iadd, 1) := by decide +kernel
theorem dJ6_bitCount_0f7a4_29 : decode cJ6_bitCount_0f7a4 29 = .ok (.ldc_w 267, 3) := by decide +kernel
theorem dJ6_bitCount_0f7a4_32 : decode cJ6_bitCount_0f7a4 32 = .ok (.iand, 1) := by decide +kernel
theorem dJ6_bitCount_0f7a4_33 : decode cJ6_bitCount_0f7a4 33 = .ok (.istore_n 0, 1) := by decide +kernel
theorem dJ6_bitCount_0f7a4_34 : decode cJ6_bitCount_0f7a4 34 = .ok (.iload_n 0, 1) := by decide +kernel
theorem dJ6_bitCount_0f7a4_35 : decode cJ6_bitCount_0f7a4 35 = .ok (.iload_n 0, 1) := by decide +kernel
theorem dJ6_bitCount_0f7a4_36 : decode cJ6_bitCount_0f7a4 36 = .ok (.bipush 8, 2) := by decide +kernel
theorem dJ6_bitCount_0f7a4_38 : decode cJ6_bitCount_0f7a4 38 = .ok (.iushr, 1) := by decide +kernel
theorem dJ6_bitCount_0f7a4_39 : decode cJ6_bitCount_0f7a4 39 = .ok (.iadd, 1) := by decide +kernel
theorem dJ6_bitCount_0f7a4_40 : decode cJ6_bitCount_0f7a4 40 = .ok (.istore_n 0, 1) := by decide +kernel
theorem dJ6_bitCount_0f7a4_41 : decode cJ6_bitCount_0f7a4 41 = .ok (.iload_n 0, 1) := by decide +kernel
theorem dJ6_bitCount_0f7a4_42 : decode cJ6_bitCount_0f7a4 42 = .ok (.iload_n 0, 1) := by decide +kernel
theorem dJ6_bitCount_0f7a4_43 : decode cJ6_bitCount_0f7a4 43 = .ok (.bipush 16, 2) := by decide +kernel
theorem dJ6_bitCount_0f7a4_45 : decode cJ6_bitCount_0f7a4 45 = .ok (.iushr, 1) := by decide +kernel
theorem dJ6_bitCount_0f7a4_46 : decode cJ6_bitCount_0f7a4 46 = .ok (.iadd, 1) := by decide +kernel
theorem dJ6_bitCount_0f7a4_47 : decode cJ6_bitCount_0f7a4 47 = .ok (.istore_n 0, 1) := by decide +kernel
theorem dJ6_bitCount_0f7a4_48 : decode cJ6_bitCount_0f7a4 48 = .ok (.iload_n 0, 1) := by decide +kernel
theorem dJ6_bitCount_0f7a4_49 : decode cJ6_bitCount_0f7a4 49 = .ok (.bipush 63, 2) := by decide +kernel
theorem dJ6_bitCount_0f7a4_51 : decode cJ6_bitCount_0f7a4 51 = .ok (.iand, 1) := by decide +kernel
theorem dJ6_bitCount_0f7a4_52 : decode cJ6_bitCount_0f7a4 52 = .ok (.ireturn, 1) := by decide +kernel
end
section
theorem zcp_nat : Cond.native arraycopyName ∈ zU := zw_308
theorem zcp_st : Cond.static arraycopyName ∈ zU := zw_307
theorem zcp_in : Cond.initialized "java/lang/System" ∈ zU := zw_47
abbrev zM : Type := (Nat → Nat → Int32) × (Nat → Nat → Int64)
abbrev zE : Type := Launch × va_G × (Nat → ClassId) × (Nat → Nat)
abbrev zX : Type := Program × Env × Room × State × MethodId × Array Value × List Frame × Method × Code × (State → Prop)
/-- what cell c holds: its own ints g, its own longs h; references never change -/
def zsh0 (cy : Nat → ClassId) (ad : Nat → Nat) (g : Nat → Int32) (h : Nat → Int64) (c : Nat) : va_E := match c with
  | 0 => .inr (5, [.ref (ad 1), .ref (ad 46), .ref (ad 49), .ref (ad 4), .ref (ad 6), .ref (ad 3), .ref (ad 7), .ref (ad 11), .long (h 8)])
  | 1 => .inr (4, [.ref (ad 2), .int (g 1)])
  | 2 => .inl (cy 0, 90, .inl g)
  | 3 => .inl (cy 2, 2, .inl g)
  | 4 => .inr (0, [.ref (ad 5), .int (g 1), .int (g 2)])
  | 5 => .inl (cy 3, 14, .inr (.inr (.inr (.inr (fun i => if i < 14 then some (ad (52 + 3 * i)) else none)))))
  | 6 => .inl (cy 3, 2, .inr (.inr (.inr (.inr (fun i => if i < 2 then some (ad (94 + 3 * i)) else none)))))
  | 7 => .inr (1, [.ref (ad 8), .ref (ad 9), .ref (ad 10), .int (g 3), .int (g 4), .int (g 5), .long (h 6)])
  | 8 => .inl (cy 4, 6, .inr (.inr (.inr (.inr (fun i => if i < 6 then some (ad (15 + 1 * i)) else none)))))
  | 9 => .inl (cy 4, 6, .inr (.inr (.inr (.inr (fun i => if i < 6 then some (ad (21 + 1 * i)) else none)))))
  | 10 => .inl (cy 1, 6, .inr (.inl h))
  | 11 => .inr (2, [.ref (ad 12), .ref (ad 13), .ref (ad 14)])
  | 12 => .inl (cy 4, 5, .inr (.inr (.inr (.inr (fun i => if i < 5 then some (ad (27 + 1 * i)) else none)))))
  | 13 => .inl (cy 0, 5, .inl g)
  | 14 => .inl (cy 0, 256, .inl g)
  | 32 => .inr (6, [.int (g 0), .ref (ad 33), .int (g 2), .int (g 3), .int (g 4), .int (g 5), .ref (ad 34), .ref (ad 35), .ref (ad 36), .ref (ad 37), .ref (ad 38), .int (g 11), .ref (ad 39), .ref (ad 40), .long (h 14), .int (g 15), .ref (ad 41), .ref (ad 42), .long (h 18), .ref (ad 43), .ref (ad 44), .ref (ad 45), .long (h 22), .long (h 23)])
  | 33 => .inl (cy 0, 90, .inl g)
  | 34 => .inl (cy 0, 18, .inl g)
  | 35 => .inl (cy 0, 18, .inl g)
  | 36 => .inl (cy 0, 18, .inl g)
  | 37 => .inl (cy 0, 18, .inl g)
  | 38 => .inl (cy 0, 252, .inl g)
  | 39 => .inl (cy 0, 36, .inl g)
  | 40 => .inl (cy 2, 2, .inl g)
  | 41 => .inl (cy 1, 25, .inr (.inl h))
  | 42 => .inl (cy 1, 5, .inr (.inl h))
  | 43 => .inl (cy 1, 25, .inr (.inl h))
  | 44 => .inl (cy 0, 5, .inl g)
  | 45 => .inl (cy 0, 5, .inl g)
  | _ => .inl (cy 1, 6, .inr (.inl h))
def zsh (cy : Nat → ClassId) (ad : Nat → Nat) (g : Nat → Int32) (h : Nat → Int64) (c : Nat) : va_E :=
  if 46 ≤ c then (if (c - 46) % 3 = 0 then .inr (3, [.int (g 0), .int (g 1), .int (g 2), .ref (ad (c + 1)), .ref (ad (c + 2))]) else .inl (cy 0, 8, .inl g)) else zsh0 cy ad g h c
def zwd (E : zE) (M : zM) : va_W := (List.range 100).map (fun c => (E.2.2.2 c, zsh E.2.2.1 E.2.2.2 (M.1 c) (M.2 c) c))
def zA (E : zE) : Nat → Prop := fun q => ∃ c, c < 100 ∧ q = E.2.2.2 c
def zI (E : zE) : Prop := ∀ i j, i < 100 → j < 100 → E.2.2.2 i = E.2.2.2 j → i = j
abbrev ztys (E : zE) : List (ClassId × FieldType) := [(E.2.2.1 0, .int), (E.2.2.1 1, .long), (E.2.2.1 2, .boolean), (E.2.2.1 3, .object RX3), (E.2.2.1 4, .array .long)]
abbrev zNest : Cond := .methodLinkNest RX1 95 yX5_isLess RX5
def zG (E : zE) (U : State) : Prop := va_K E.2.1 vwCl (ztys E) U ∧ va_Nw zNest U
theorem zwd_get (E : zE) (M : zM) {c : Nat} (h : c < 100) : (zwd E M)[c]? = some (E.2.2.2 c, zsh E.2.2.1 E.2.2.2 (M.1 c) (M.2 c) c) := by
  simp [zwd, List.getElem?_map, List.getElem?_range, h]
theorem zwd_len (E : zE) (M : zM) : (zwd E M).length = 100 := by simp [zwd]
theorem zwd_set (E : zE) (M : zM) {c : Nat} (h : c < 100) (g : Nat → Int32) (k : Nat → Int64) : (zwd E M).set c (E.2.2.2 c, zsh E.2.2.1 E.2.2.2 g k c) = zwd E (va_up M.1 c g, va_up M.2 c k) := by
  apply List.ext_getElem?
  intro i
  by_cases hi : i < 100
  · rw [zwd_get _ _ hi, List.getElem?_set]
    by_cases e : c = i
    · subst e
      simp [zwd_len, h, va_up]
    · rw [if_neg e, zwd_get _ _ hi]
      have e2 : ¬ i = c := fun q => e q.symm
      simp [va_up, e2]
  · rw [List.getElem?_eq_none (by rw [List.length_set, zwd_len]; omega), List.getElem?_eq_none (by rw [zwd_len]; omega)]
theorem zwd_D (E : zE) (M : zM) (hI : zI E) : va_D (zA E) (zwd E M) := by
  refine ⟨fun i j p q hi hj e => ?_, fun k q hk => ?_⟩
  · have h1 : i < 100 := by
      have := (List.getElem?_eq_some_iff.mp hi).1
      rwa [zwd_len] at this
    have h2 : j < 100 := by
      have := (List.getElem?_eq_some_iff.mp hj).1
      rwa [zwd_len] at this
    rw [zwd_get _ _ h1] at hi
    rw [zwd_get _ _ h2] at hj
    cases hi; cases hj
    exact hI i j h1 h2 e
  · have h1 : k < 100 := by
      have := (List.getElem?_eq_some_iff.mp hk).1
      rwa [zwd_len] at this
    rw [zwd_get _ _ h1] at hk
    cases hk
    exact ⟨k, h1, rfl⟩
/-- at pc, with these locals known, this stack, this memory: the machine comes to its end -/
def zJ (E : zE) (x : zX) (pc : Nat) (lv : List (Nat × Value)) (st : List Value) (M : zM) : Prop :=
  ∀ (H : Heap) (locs : List Loc) (ls : Array Slot), lv_has ls x.2.2.2.2.2.2.2.2.1.maxLocals lv → va_P E.2.1 vwCl (zwd E M) H → va_S (zA E) x.2.2.2.1.heap H locs →
    W x.1 E.1 x.2.1 x.2.2.1 x.2.2.2.1 x.2.2.2.2.1 x.2.2.2.2.2.1 x.2.2.2.2.2.2.1 x.2.2.2.2.2.2.2.1 x.2.2.2.2.2.2.2.2.1 H locs 0 0 x.2.2.2.2.2.2.2.2.2 (F0 x.2.2.2.2.1 pc ls st)
def zOk (E : zE) (x : zX) (cc : ByteArray) (own : String) (nL : Nat) (R : Room) : Prop :=
  x.1.tables.exec = Jvm.exec ∧ x.2.2.2.2.2.2.2.2.1.code = cc ∧ x.2.2.2.2.2.2.2.2.1.maxLocals = nL ∧ x.2.2.2.1.vm.findClass own = some x.2.2.2.2.1.cls ∧ (∀ w ∈ zU, w.before x.2.2.2.2.2.1 x.2.2.2.1 = true) ∧ zG E x.2.2.2.1 ∧ zI E ∧ x.2.2.1 = R
def zputI (M : zM) (c k : Nat) (v : Int32) : zM := (va_up M.1 c (upd (M.1 c) k v), M.2)
def zputJ (M : zM) (c k : Nat) (v : Int64) : zM := (M.1, va_up M.2 c (vp_updL (M.2 c) k v))
def zsetI (M : zM) (c : Nat) (g : Nat → Int32) : zM := (va_up M.1 c g, M.2)
def zsetJ (M : zM) (c : Nat) (h : Nat → Int64) : zM := (M.1, va_up M.2 c h)
theorem zup_self {α : Type} (f : Nat → α) (c : Nat) : va_up f c (f c) = f := by
  funext i
  by_cases h : i = c
  · subst h; simp [va_up]
  · simp [va_up, h]
section ZJ
variable {E : zE} {x : zX} {cc : ByteArray} {own : String} {nL : Nat} {R : Room} {pc : Nat} {lv : List (Nat × Value)} {st : List Value} {M : zM}
theorem zJ_M {M2 : zM} (h : M = M2) (k : zJ E x pc lv st M2) : zJ E x pc lv st M := h ▸ k
theorem zJ_st {st2 : List Value} (h : st = st2) (k : zJ E x pc lv st2 M) : zJ E x pc lv st M := h ▸ k
theorem z_lv {lv2 : List (Nat × Value)} (ks : List Nat) (h : lv_pick lv ks = lv2) (k : zJ E x pc lv2 st M) : zJ E x pc lv st M := fun H locs ls hl hP hS => k H locs ls (lv_sub hl ks h) hP hS
theorem z_iconst (hx : zOk E x cc own nL R) {n : Int} {v : Int32} (d : decode cc pc = .ok (.iconst n, 1)) (hv : Int32.ofInt n = v) (k : zJ E x (pc + 1) lv (.int v :: st) M) : zJ E x pc lv (st) M := fun H locs ls hl hP hS => lv_iconst hx.1 hx.2.1 d hv (k H locs ls hl hP hS)
theorem z_bipush (hx : zOk E x cc own nL R) {n : Int} {v : Int32} (d : decode cc pc = .ok (.bipush n, 2)) (hv : (Int8.ofInt n).toInt32 = v) (k : zJ E x (pc + 2) lv (.int v :: st) M) : zJ E x pc lv (st) M := fun H locs ls hl hP hS => lv_bipush hx.1 hx.2.1 d hv (k H locs ls hl hP hS)
theorem z_sipush (hx : zOk E x cc own nL R) {n : Int} {v : Int32} (d : decode cc pc = .ok (.sipush n, 3)) (hv : (Int16.ofInt n).toInt32 = v) (k : zJ E x (pc + 3) lv (.int v :: st) M) : zJ E x pc lv (st) M := fun H locs ls hl hP hS => lv_sipush hx.1 hx.2.1 d hv (k H locs ls hl hP hS)
theorem z_lconst (hx : zOk E x cc own nL R) {n : Fin 2} {v : Int64} (d : decode cc pc = .ok (.lconst n, 1)) (hv : Int64.ofNat (n : Nat) = v) (k : zJ E x (pc + 1) lv (.long v :: st) M) : zJ E x pc lv (st) M := fun H locs ls hl hP hS => lv_lconst hx.1 hx.2.1 d hv (k H locs ls hl hP hS)
theorem z_iload_n (hx : zOk E x cc own nL R) (q : Nat) {k : Fin 4} {i : Nat} {v : Int32} (d : decode cc pc = .ok (.iload_n k, 1)) (hi : (k : Nat) = i) (hq : lv[q]? = some (i, .int v)) (kk : zJ E x (pc + 1) lv (.int v :: st) M) : zJ E x pc lv st M := fun H locs ls hl hP hS => lv_iload_n hx.1 hx.2.1 d hi (lv_at hl q hq) (kk H locs ls hl hP hS)
theorem z_iload (hx : zOk E x cc own nL R) (q : Nat) {i : Nat} {v : Int32} (d : decode cc pc = .ok (.iload i, 2)) (hq : lv[q]? = some (i, .int v)) (kk : zJ E x (pc + 2) lv (.int v :: st) M) : zJ E x pc lv st M := fun H locs ls hl hP hS => lv_iload hx.1 hx.2.1 d (lv_at hl q hq) (kk H locs ls hl hP hS)
theorem z_istore_n (hx : zOk E x cc own nL R) {k : Fin 4} {i : Nat} {v : Int32} {lv2 : List (Nat × Value)} (d : decode cc pc = .ok (.istore_n k, 1)) (hi : (k : Nat) = i) (hn : i < nL) (hl2 : (i, Value.int v) :: lv.filter (fun q => !(q.1 == i) && !(q.1 + 1 == i && q.2.category == 2)) = lv2) (kk : zJ E x (pc + 1) lv2 st M) : zJ E x pc lv (.int v :: st) M := fun H locs ls hl hP hS => lv_istore_n hx.1 hx.2.1 d hi hl (by rw [hx.2.2.1]; exact hn) hl2 (fun ls hl => kk H locs ls hl hP hS)
theorem z_istore (hx : zOk E x cc own nL R) {i : Nat} {v : Int32} {lv2 : List (Nat × Value)} (d : decode cc pc = .ok (.istore i, 2)) (hn : i < nL) (hl2 : (i, Value.int v) :: lv.filter (fun q => !(q.1 == i) && !(q.1 + 1 == i && q.2.category == 2)) = lv2) (kk : zJ E x (pc + 2) lv2 st M) : zJ E x pc lv (.int v :: st) M := fun H locs ls hl hP hS => lv_istore hx.1 hx.2.1 d hl (by rw [hx.2.2.1]; exact hn) hl2 (fun ls hl => kk H locs ls hl hP hS)
theorem z_lload_n (hx : zOk E x cc own nL R) (q : Nat) {k : Fin 4} {i : Nat} {v : Int64} (d : decode cc pc = .ok (.lload_n k, 1)) (hi : (k : Nat) = i) (hq : lv[q]? = some (i, .long v)) (kk : zJ E x (pc + 1) lv (.long v :: st) M) : zJ E x pc lv st M := fun H locs ls hl hP hS => lv_lload_n hx.1 hx.2.1 d hi (lv_at hl q hq) (kk H locs ls hl hP hS)
theorem z_lload (hx : zOk E x cc own nL R) (q : Nat) {i : Nat} {v : Int64} (d : decode cc pc = .ok (.lload i, 2)) (hq : lv[q]? = some (i, .long v)) (kk : zJ E x (pc + 2) lv (.long v :: st) M) : zJ E x pc lv st M := fun H locs ls hl hP hS => lv_lload hx.1 hx.2.1 d (lv_at hl q hq) (kk H locs ls hl hP hS)
theorem z_lstore_n (hx : zOk E x cc own nL R) {k : Fin 4} {i : Nat} {v : Int64} {lv2 : List (Nat × Value)} (d : decode cc pc = .ok (.lstore_n k, 1)) (hi : (k : Nat) = i) (hn : i + 1 < nL) (hl2 : (i, Value.long v) :: lv.filter (fun q => !(q.1 == i) && (!(q.1 == i + 1) && !(q.1 + 1 == i && q.2.category == 2))) = lv2) (kk : zJ E x (pc + 1) lv2 st M) : zJ E x pc lv (.long v :: st) M := fun H locs ls hl hP hS => lv_lstore_n hx.1 hx.2.1 d hi hl (by rw [hx.2.2.1]; exact hn) hl2 (fun ls hl => kk H locs ls hl hP hS)
theorem z_lstore (hx : zOk E x cc own nL R) {i : Nat} {v : Int64} {lv2 : List (Nat × Value)} (d : decode cc pc = .ok (.lstore i, 2)) (hn : i + 1 < nL) (hl2 : (i, Value.long v) :: lv.filter (fun q => !(q.1 == i) && (!(q.1 == i + 1) && !(q.1 + 1 == i && q.2.category == 2))) = lv2) (kk : zJ E x (pc + 2) lv2 st M) : zJ E x pc lv (.long v :: st) M := fun H locs ls hl hP hS => lv_lstore hx.1 hx.2.1 d hl (by rw [hx.2.2.1]; exact hn) hl2 (fun ls hl => kk H locs ls hl hP hS)
theorem z_aload_n (hx : zOk E x cc own nL R) (q : Nat) {k : Fin 4} {i : Nat} {v : Nat} (d : decode cc pc = .ok (.aload_n k, 1)) (hi : (k : Nat) = i) (hq : lv[q]? = some (i, .ref v)) (kk : zJ E x (pc + 1) lv (.ref v :: st) M) : zJ E x pc lv st M := fun H locs ls hl hP hS => lv_aload_n hx.1 hx.2.1 d hi (lv_at hl q hq) (kk H locs ls hl hP hS)
theorem z_aload (hx : zOk E x cc own nL R) (q : Nat) {i : Nat} {v : Nat} (d : decode cc pc = .ok (.aload i, 2)) (hq : lv[q]? = some (i, .ref v)) (kk : zJ E x (pc + 2) lv (.ref v :: st) M) : zJ E x pc lv st M := fun H locs ls hl hP hS => lv_aload hx.1 hx.2.1 d (lv_at hl q hq) (kk H locs ls hl hP hS)
theorem z_astore_n (hx : zOk E x cc own nL R) {k : Fin 4} {i : Nat} {v : Nat} {lv2 : List (Nat × Value)} (d : decode cc pc = .ok (.astore_n k, 1)) (hi : (k : Nat) = i) (hn : i < nL) (hl2 : (i, Value.ref v) :: lv.filter (fun q => !(q.1 == i) && !(q.1 + 1 == i && q.2.category == 2)) = lv2) (kk : zJ E x (pc + 1) lv2 st M) : zJ E x pc lv (.ref v :: st) M := fun H locs ls hl hP hS => lv_astore_n hx.1 hx.2.1 d hi hl (by rw [hx.2.2.1]; exact hn) hl2 (fun ls hl => kk H locs ls hl hP hS)
theorem z_astore (hx : zOk E x cc own nL R) {i : Nat} {v : Nat} {lv2 : List (Nat × Value)} (d : decode cc pc = .ok (.astore i, 2)) (hn : i < nL) (hl2 : (i, Value.ref v) :: lv.filter (fun q => !(q.1 == i) && !(q.1 + 1 == i && q.2.category == 2)) = lv2) (kk : zJ E x (pc + 2) lv2 st M) : zJ E x pc lv (.ref v :: st) M := fun H locs ls hl hP hS => lv_astore hx.1 hx.2.1 d hl (by rw [hx.2.2.1]; exact hn) hl2 (fun ls hl => kk H locs ls hl hP hS)
theorem z_iinc (hx : zOk E x cc own nL R) (q : Nat) {i : Nat} {n : Int} {v w : Int32} {lv2 : List (Nat × Value)} (d : decode cc pc = .ok (.iinc i n, 3)) (hq : lv[q]? = some (i, .int v)) (hv : v + Int32.ofInt n = w) (hn : i < nL) (hl2 : (i, Value.int w) :: lv.filter (fun q => !(q.1 == i) && !(q.1 + 1 == i && q.2.category == 2)) = lv2) (kk : zJ E x (pc + 3) lv2 st M) : zJ E x pc lv st M := fun H locs ls hl hP hS => lv_iinc hx.1 hx.2.1 d hl hq hv (by rw [hx.2.2.1]; exact hn) hl2 (fun ls hl => kk H locs ls hl hP hS)
theorem z_iadd (hx : zOk E x cc own nL R) {a b : Int32} (d : decode cc pc = .ok (.iadd, 1)) (k : zJ E x (pc + 1) lv (.int (a + b) :: st) M) : zJ E x pc lv (.int b :: .int a :: st) M := fun H locs ls hl hP hS => lv_iadd hx.1 hx.2.1 d (k H locs ls hl hP hS)
theorem z_isub (hx : zOk E x cc own nL R) {a b : Int32} (d : decode cc pc = .ok (.isub, 1)) (k : zJ E x (pc + 1) lv (.int (a - b) :: st) M) : zJ E x pc lv (.int b :: .int a :: st) M := fun H locs ls hl hP hS => lv_isub hx.1 hx.2.1 d (k H locs ls hl hP hS)
theorem z_imul (hx : zOk E x cc own nL R) {a b : Int32} (d : decode cc pc = .ok (.imul, 1)) (k : zJ E x (pc + 1) lv (.int (a * b) :: st) M) : zJ E x pc lv (.int b :: .int a :: st) M := fun H locs ls hl hP hS => lv_imul hx.1 hx.2.1 d (k H locs ls hl hP hS)
theorem z_iand (hx : zOk E x cc own nL R) {a b : Int32} (d : decode cc pc = .ok (.iand, 1)) (k : zJ E x (pc + 1) lv (.int (a &&& b) :: st) M) : zJ E x pc lv (.int b :: .int a :: st) M := fun H locs ls hl hP hS => lv_iand hx.1 hx.2.1 d (k H locs ls hl hP hS)
theorem z_ior (hx : zOk E x cc own nL R) {a b : Int32} (d : decode cc pc = .ok (.ior, 1)) (k : zJ E x (pc + 1) lv (.int (a ||| b) :: st) M) : zJ E x pc lv (.int b :: .int a :: st) M := fun H locs ls hl hP hS => lv_ior hx.1 hx.2.1 d (k H locs ls hl hP hS)
theorem z_ixor (hx : zOk E x cc own nL R) {a b : Int32} (d : decode cc pc = .ok (.ixor, 1)) (k : zJ E x (pc + 1) lv (.int (a ^^^ b) :: st) M) : zJ E x pc lv (.int b :: .int a :: st) M := fun H locs ls hl hP hS => lv_ixor hx.1 hx.2.1 d (k H locs ls hl hP hS)
theorem z_ishl (hx : zOk E x cc own nL R) {a b : Int32} (d : decode cc pc = .ok (.ishl, 1)) (k : zJ E x (pc + 1) lv (.int (a <<< (b &&& 31)) :: st) M) : zJ E x pc lv (.int b :: .int a :: st) M := fun H locs ls hl hP hS => lv_ishl hx.1 hx.2.1 d (k H locs ls hl hP hS)
theorem z_ishr (hx : zOk E x cc own nL R) {a b : Int32} (d : decode cc pc = .ok (.ishr, 1)) (k : zJ E x (pc + 1) lv (.int (a >>> (b &&& 31)) :: st) M) : zJ E x pc lv (.int b :: .int a :: st) M := fun H locs ls hl hP hS => lv_ishr hx.1 hx.2.1 d (k H locs ls hl hP hS)
theorem z_idiv (hx : zOk E x cc own nL R) {a b : Int32} (d : decode cc pc = .ok (.idiv, 1)) (hne : ¬ b = 0) (k : zJ E x (pc + 1) lv (.int (a / b) :: st) M) : zJ E x pc lv (.int b :: .int a :: st) M := fun H locs ls hl hP hS => lv_idiv hx.1 hx.2.1 d hne (k H locs ls hl hP hS)
theorem z_irem (hx : zOk E x cc own nL R) {a b : Int32} (d : decode cc pc = .ok (.irem, 1)) (hne : ¬ b = 0) (k : zJ E x (pc + 1) lv (.int (a - a / b * b) :: st) M) : zJ E x pc lv (.int b :: .int a :: st) M := fun H locs ls hl hP hS => lv_irem hx.1 hx.2.1 d hne (k H locs ls hl hP hS)
theorem z_ineg (hx : zOk E x cc own nL R) {a : Int32} (d : decode cc pc = .ok (.ineg, 1)) (k : zJ E x (pc + 1) lv (.int (-a) :: st) M) : zJ E x pc lv (.int a :: st) M := fun H locs ls hl hP hS => lv_ineg hx.1 hx.2.1 d (k H locs ls hl hP hS)
theorem z_iushr (hx : zOk E x cc own nL R) {a b v : Int32} (d : decode cc pc = .ok (.iushr, 1)) (hv : (a.toUInt32 >>> (b.toUInt32 &&& Int32.toUInt32 31)).toInt32 = v) (k : zJ E x (pc + 1) lv (.int v :: st) M) : zJ E x pc lv (.int b :: .int a :: st) M := fun H locs ls hl hP hS => lv_iushr hx.1 hx.2.1 d hv (k H locs ls hl hP hS)
theorem z_ladd (hx : zOk E x cc own nL R) {a b : Int64} (d : decode cc pc = .ok (.ladd, 1)) (k : zJ E x (pc + 1) lv (.long (a + b) :: st) M) : zJ E x pc lv (.long b :: .long a :: st) M := fun H locs ls hl hP hS => lv_ladd hx.1 hx.2.1 d (k H locs ls hl hP hS)
theorem z_lsub (hx : zOk E x cc own nL R) {a b : Int64} (d : decode cc pc = .ok (.lsub, 1)) (k : zJ E x (pc + 1) lv (.long (a - b) :: st) M) : zJ E x pc lv (.long b :: .long a :: st) M := fun H locs ls hl hP hS => lv_lsub hx.1 hx.2.1 d (k H locs ls hl hP hS)
theorem z_lmul (hx : zOk E x cc own nL R) {a b : Int64} (d : decode cc pc = .ok (.lmul, 1)) (k : zJ E x (pc + 1) lv (.long (a * b) :: st) M) : zJ E x pc lv (.long b :: .long a :: st) M := fun H locs ls hl hP hS => lv_lmul hx.1 hx.2.1 d (k H locs ls hl hP hS)
theorem z_land (hx : zOk E x cc own nL R) {a b : Int64} (d : decode cc pc = .ok (.land, 1)) (k : zJ E x (pc + 1) lv (.long (a &&& b) :: st) M) : zJ E x pc lv (.long b :: .long a :: st) M := fun H locs ls hl hP hS => lv_land hx.1 hx.2.1 d (k H locs ls hl hP hS)
theorem z_lor (hx : zOk E x cc own nL R) {a b : Int64} (d : decode cc pc = .ok (.lor, 1)) (k : zJ E x (pc + 1) lv (.long (a ||| b) :: st) M) : zJ E x pc lv (.long b :: .long a :: st) M := fun H locs ls hl hP hS => lv_lor hx.1 hx.2.1 d (k H locs ls hl hP hS)
theorem z_ldiv (hx : zOk E x cc own nL R) {a b : Int64} (d : decode cc pc = .ok (.ldiv, 1)) (hne : ¬ b = 0) (k : zJ E x (pc + 1) lv (.long (a / b) :: st) M) : zJ E x pc lv (.long b :: .long a :: st) M := fun H locs ls hl hP hS => lv_ldiv hx.1 hx.2.1 d hne (k H locs ls hl hP hS)
theorem z_lrem (hx : zOk E x cc own nL R) {a b : Int64} (d : decode cc pc = .ok (.lrem, 1)) (hne : ¬ b = 0) (k : zJ E x (pc + 1) lv (.long (a - a / b * b) :: st) M) : zJ E x pc lv (.long b :: .long a :: st) M := fun H locs ls hl hP hS => lv_lrem hx.1 hx.2.1 d hne (k H locs ls hl hP hS)
theorem z_lneg (hx : zOk E x cc own nL R) {a : Int64} (d : decode cc pc = .ok (.lneg, 1)) (k : zJ E x (pc + 1) lv (.long (-a) :: st) M) : zJ E x pc lv (.long a :: st) M := fun H locs ls hl hP hS => lv_lneg hx.1 hx.2.1 d (k H locs ls hl hP hS)
theorem z_i2l (hx : zOk E x cc own nL R) {a : Int32} (d : decode cc pc = .ok (.i2l, 1)) (k : zJ E x (pc + 1) lv (.long a.toInt64 :: st) M) : zJ E x pc lv (.int a :: st) M := fun H locs ls hl hP hS => lv_i2l hx.1 hx.2.1 d rfl (k H locs ls hl hP hS)
theorem z_l2i (hx : zOk E x cc own nL R) {a : Int64} (d : decode cc pc = .ok (.l2i, 1)) (k : zJ E x (pc + 1) lv (.int a.toInt32 :: st) M) : zJ E x pc lv (.long a :: st) M := fun H locs ls hl hP hS => lv_l2i hx.1 hx.2.1 d rfl (k H locs ls hl hP hS)
theorem z_lushr (hx : zOk E x cc own nL R) {a : Int64} {b : Int32} (d : decode cc pc = .ok (.lushr, 1)) (k : zJ E x (pc + 1) lv (.long (a.toUInt64 >>> (b.toInt64.toUInt64 &&& Int64.toUInt64 63)).toInt64 :: st) M) : zJ E x pc lv (.int b :: .long a :: st) M := fun H locs ls hl hP hS => lv_lushr hx.1 hx.2.1 d rfl (k H locs ls hl hP hS)
theorem z_lshl (hx : zOk E x cc own nL R) {a : Int64} {b : Int32} (d : decode cc pc = .ok (.lshl, 1)) (k : zJ E x (pc + 1) lv (.long (a <<< (b.toInt64 &&& 63)) :: st) M) : zJ E x pc lv (.int b :: .long a :: st) M := fun H locs ls hl hP hS => lv_lshl hx.1 hx.2.1 d rfl (k H locs ls hl hP hS)
theorem z_lcmp (hx : zOk E x cc own nL R) {a b : Int64} (d : decode cc pc = .ok (.lcmp, 1)) (k : zJ E x (pc + 1) lv (.int (lg_cmp a b) :: st) M) : zJ E x pc lv (.long b :: .long a :: st) M := fun H locs ls hl hP hS => W.lcmp hx.1 hx.2.1 d (k H locs ls hl hP hS)
theorem z_dup (hx : zOk E x cc own nL R) {va : Value} (d : decode cc pc = .ok (.dup, 1)) (h1 : va.category = 1) (k : zJ E x (pc + 1) lv (va :: va :: st) M) : zJ E x pc lv (va :: st) M := fun H locs ls hl hP hS => lv_dup hx.1 hx.2.1 d h1 (k H locs ls hl hP hS)
theorem z_pop (hx : zOk E x cc own nL R) {va : Value} (d : decode cc pc = .ok (.pop, 1)) (h1 : va.category = 1) (k : zJ E x (pc + 1) lv (st) M) : zJ E x pc lv (va :: st) M := fun H locs ls hl hP hS => lv_pop hx.1 hx.2.1 d h1 (k H locs ls hl hP hS)
theorem z_dup_x1 (hx : zOk E x cc own nL R) {va vb : Value} (d : decode cc pc = .ok (.dup_x1, 1)) (h1 : va.category = 1) (h2 : vb.category = 1) (k : zJ E x (pc + 1) lv (va :: vb :: va :: st) M) : zJ E x pc lv (va :: vb :: st) M := fun H locs ls hl hP hS => lv_dup_x1 hx.1 hx.2.1 d h1 h2 (k H locs ls hl hP hS)
theorem z_dup_x2 (hx : zOk E x cc own nL R) {va vb vd : Value} (d : decode cc pc = .ok (.dup_x2, 1)) (h1 : va.category = 1) (h2 : vb.category = 1) (h3 : vd.category = 1) (k : zJ E x (pc + 1) lv (va :: vb :: vd :: va :: st) M) : zJ E x pc lv (va :: vb :: vd :: st) M := fun H locs ls hl hP hS => lv_dup_x2 hx.1 hx.2.1 d h1 h2 h3 (k H locs ls hl hP hS)
theorem z_dup2_11 (hx : zOk E x cc own nL R) {va vb : Value} (d : decode cc pc = .ok (.dup2, 1)) (h1 : va.category = 1) (h2 : vb.category = 1) (k : zJ E x (pc + 1) lv (va :: vb :: va :: vb :: st) M) : zJ E x pc lv (va :: vb :: st) M := fun H locs ls hl hP hS => lv_dup2_11 hx.1 hx.2.1 d h1 h2 (k H locs ls hl hP hS)
theorem z_dup2_2 (hx : zOk E x cc own nL R) {va : Value} (d : decode cc pc = .ok (.dup2, 1)) (h1 : va.category = 2) (k : zJ E x (pc + 1) lv (va :: va :: st) M) : zJ E x pc lv (va :: st) M := fun H locs ls hl hP hS => lv_dup2_2 hx.1 hx.2.1 d h1 (k H locs ls hl hP hS)
theorem z_if_eq (hx : zOk E x cc own nL R) {x0 : Int32} {off : Int} {tgt : Nat} (d : decode cc pc = .ok (.ifCond .eq off, 3)) (ht : (pc : Int) + off = (tgt : Int)) (kt : x0 = 0 → zJ E x tgt lv st M) (kf : ¬ x0 = 0 → zJ E x (pc + 3) lv st M) : zJ E x pc lv (.int x0 :: st) M := fun H locs ls hl hP hS => lv_if_eq hx.1 hx.2.1 d ht (fun q => kt q H locs ls hl hP hS) (fun q => kf q H locs ls hl hP hS)
theorem z_icmp_eq (hx : zOk E x cc own nL R) {x0 y0 : Int32} {off : Int} {tgt : Nat} (d : decode cc pc = .ok (.if_icmp .eq off, 3)) (ht : (pc : Int) + off = (tgt : Int)) (kt : x0 = y0 → zJ E x tgt lv st M) (kf : ¬ x0 = y0 → zJ E x (pc + 3) lv st M) : zJ E x pc lv (.int y0 :: .int x0 :: st) M := fun H locs ls hl hP hS => lv_icmp_eq hx.1 hx.2.1 d ht (fun q => kt q H locs ls hl hP hS) (fun q => kf q H locs ls hl hP hS)
theorem z_if_ne (hx : zOk E x cc own nL R) {x0 : Int32} {off : Int} {tgt : Nat} (d : decode cc pc = .ok (.ifCond .ne off, 3)) (ht : (pc : Int) + off = (tgt : Int)) (kt : ¬ x0 = 0 → zJ E x tgt lv st M) (kf : x0 = 0 → zJ E x (pc + 3) lv st M) : zJ E x pc lv (.int x0 :: st) M := fun H locs ls hl hP hS => lv_if_ne hx.1 hx.2.1 d ht (fun q => kt q H locs ls hl hP hS) (fun q => kf q H locs ls hl hP hS)
theorem z_icmp_ne (hx : zOk E x cc own nL R) {x0 y0 : Int32} {off : Int} {tgt : Nat} (d : decode cc pc = .ok (.if_icmp .ne off, 3)) (ht : (pc : Int) + off = (tgt : Int)) (kt : ¬ x0 = y0 → zJ E x tgt lv st M) (kf : x0 = y0 → zJ E x (pc + 3) lv st M) : zJ E x pc lv (.int y0 :: .int x0 :: st) M := fun H locs ls hl hP hS => lv_icmp_ne hx.1 hx.2.1 d ht (fun q => kt q H locs ls hl hP hS) (fun q => kf q H locs ls hl hP hS)
theorem z_if_lt (hx : zOk E x cc own nL R) {x0 : Int32} {off : Int} {tgt : Nat} (d : decode cc pc = .ok (.ifCond .lt off, 3)) (ht : (pc : Int) + off = (tgt : Int)) (kt : x0 < 0 → zJ E x tgt lv st M) (kf : ¬ x0 < 0 → zJ E x (pc + 3) lv st M) : zJ E x pc lv (.int x0 :: st) M := fun H locs ls hl hP hS => lv_if_lt hx.1 hx.2.1 d ht (fun q => kt q H locs ls hl hP hS) (fun q => kf q H locs ls hl hP hS)
theorem z_icmp_lt (hx : zOk E x cc own nL R) {x0 y0 : Int32} {off : Int} {tgt : Nat} (d : decode cc pc = .ok (.if_icmp .lt off, 3)) (ht : (pc : Int) + off = (tgt : Int)) (kt : x0 < y0 → zJ E x tgt lv st M) (kf : ¬ x0 < y0 → zJ E x (pc + 3) lv st M) : zJ E x pc lv (.int y0 :: .int x0 :: st) M := fun H locs ls hl hP hS => lv_icmp_lt hx.1 hx.2.1 d ht (fun q => kt q H locs ls hl hP hS) (fun q => kf q H locs ls hl hP hS)
theorem z_if_ge (hx : zOk E x cc own nL R) {x0 : Int32} {off : Int} {tgt : Nat} (d : decode cc pc = .ok (.ifCond .ge off, 3)) (ht : (pc : Int) + off = (tgt : Int)) (kt : 0 ≤ x0 → zJ E x tgt lv st M) (kf : ¬ 0 ≤ x0 → zJ E x (pc + 3) lv st M) : zJ E x pc lv (.int x0 :: st) M := fun H locs ls hl hP hS => lv_if_ge hx.1 hx.2.1 d ht (fun q => kt q H locs ls hl hP hS) (fun q => kf q H locs ls hl hP hS)
theorem z_icmp_ge (hx : zOk E x cc own nL R) {x0 y0 : Int32} {off : Int} {tgt : Nat} (d : decode cc pc = .ok (.if_icmp .ge off, 3)) (ht : (pc : Int) + off = (tgt : Int)) (kt : y0 ≤ x0 → zJ E x tgt lv st M) (kf : ¬ y0 ≤ x0 → zJ E x (pc + 3) lv st M) : zJ E x pc lv (.int y0 :: .int x0 :: st) M := fun H locs ls hl hP hS => lv_icmp_ge hx.1 hx.2.1 d ht (fun q => kt q H locs ls hl hP hS) (fun q => kf q H locs ls hl hP hS)
theorem z_if_gt (hx : zOk E x cc own nL R) {x0 : Int32} {off : Int} {tgt : Nat} (d : decode cc pc = .ok (.ifCond .gt off, 3)) (ht : (pc : Int) + off = (tgt : Int)) (kt : 0 < x0 → zJ E x tgt lv st M) (kf : ¬ 0 < x0 → zJ E x (pc + 3) lv st M) : zJ E x pc lv (.int x0 :: st) M := fun H locs ls hl hP hS => lv_if_gt hx.1 hx.2.1 d ht (fun q => kt q H locs ls hl hP hS) (fun q => kf q H locs ls hl hP hS)
theorem z_icmp_gt (hx : zOk E x cc own nL R) {x0 y0 : Int32} {off : Int} {tgt : Nat} (d : decode cc pc = .ok (.if_icmp .gt off, 3)) (ht : (pc : Int) + off = (tgt : Int)) (kt : y0 < x0 → zJ E x tgt lv st M) (kf : ¬ y0 < x0 → zJ E x (pc + 3) lv st M) : zJ E x pc lv (.int y0 :: .int x0 :: st) M := fun H locs ls hl hP hS => lv_icmp_gt hx.1 hx.2.1 d ht (fun q => kt q H locs ls hl hP hS) (fun q => kf q H locs ls hl hP hS)
theorem z_if_le (hx : zOk E x cc own nL R) {x0 : Int32} {off : Int} {tgt : Nat} (d : decode cc pc = .ok (.ifCond .le off, 3)) (ht : (pc : Int) + off = (tgt : Int)) (kt : x0 ≤ 0 → zJ E x tgt lv st M) (kf : ¬ x0 ≤ 0 → zJ E x (pc + 3) lv st M) : zJ E x pc lv (.int x0 :: st) M := fun H locs ls hl hP hS => lv_if_le hx.1 hx.2.1 d ht (fun q => kt q H locs ls hl hP hS) (fun q => kf q H locs ls hl hP hS)
theorem z_icmp_le (hx : zOk E x cc own nL R) {x0 y0 : Int32} {off : Int} {tgt : Nat} (d : decode cc pc = .ok (.if_icmp .le off, 3)) (ht : (pc : Int) + off = (tgt : Int)) (kt : x0 ≤ y0 → zJ E x tgt lv st M) (kf : ¬ x0 ≤ y0 → zJ E x (pc + 3) lv st M) : zJ E x pc lv (.int y0 :: .int x0 :: st) M := fun H locs ls hl hP hS => lv_icmp_le hx.1 hx.2.1 d ht (fun q => kt q H locs ls hl hP hS) (fun q => kf q H locs ls hl hP hS)
theorem z_goto (hx : zOk E x cc own nL R) {off : Int} {tgt : Nat} (d : decode cc pc = .ok (.goto off, 3)) (ht : (pc : Int) + off = (tgt : Int)) (k : zJ E x tgt lv st M) : zJ E x pc lv st M := fun H locs ls hl hP hS => lv_goto hx.1 hx.2.1 d ht (k H locs ls hl hP hS)
theorem z_tableIn (hx : zOk E x cc own nL R) {dflt lo hi : Int} {offs : Array Int} {len : Nat} {x0 : Int32} {off : Int} {tgt : Nat} (d : decode cc pc = .ok (.tableswitch dflt lo hi offs, len)) (h1 : ¬ x0.toInt < lo) (h2 : ¬ hi < x0.toInt) (ho : offs[(x0.toInt - lo).toNat]? = some off) (ht : (pc : Int) + off = (tgt : Int)) (k : zJ E x tgt lv st M) : zJ E x pc lv (.int x0 :: st) M := fun H locs ls hl hP hS => lv_tableIn hx.1 hx.2.1 d h1 h2 ho ht (k H locs ls hl hP hS)
theorem z_tableOut (hx : zOk E x cc own nL R) {dflt lo hi : Int} {offs : Array Int} {len : Nat} {x0 : Int32} {tgt : Nat} (d : decode cc pc = .ok (.tableswitch dflt lo hi offs, len)) (h : x0.toInt < lo ∨ hi < x0.toInt) (ht : (pc : Int) + dflt = (tgt : Int)) (k : zJ E x tgt lv st M) : zJ E x pc lv (.int x0 :: st) M := fun H locs ls hl hP hS => lv_tableOut hx.1 hx.2.1 d h ht (k H locs ls hl hP hS)
theorem z_ldc2 (hx : zOk E x cc own nL R) {index : Nat} {v : Int64} (hw : Cond.constantLong own index v ∈ zU) (d : decode cc pc = .ok (.ldc2_w index, 3)) (k : zJ E x (pc + 3) lv (.long v :: st) M) : zJ E x pc lv st M := fun H locs ls hl hP hS => lv_ldc2 hx.1 hx.2.1 hx.2.2.2.1 (hx.2.2.2.2.1 _ hw) d (k H locs ls hl hP hS)
theorem z_ldcw (hx : zOk E x cc own nL R) {index : Nat} {v : Int32} (hw : Cond.constant own index v ∈ zU) (d : decode cc pc = .ok (.ldc_w index, 3)) (k : zJ E x (pc + 3) lv (.int v :: st) M) : zJ E x pc lv st M := fun H locs ls hl hP hS => lv_ldcw hx.1 hx.2.1 hx.2.2.2.1 (hx.2.2.2.2.1 _ hw) d (k H locs ls hl hP hS)
theorem z_get (hx : zOk E x cc own nL R) {c ci k N index : Nat} {C : String} {T : u_T} {fs : List Value} {v : Value} (hc : c < 100) (hs : zsh E.2.2.1 E.2.2.2 (M.1 c) (M.2 c) c = .inr (ci, fs)) (hci : vwCl[ci]? = some (C, T, N)) (hin : ∀ w ∈ u_ws C T N, w ∈ zU) (hk : k < N) (hl : Cond.fieldLink own index (T k).1 (T k).2.1 (T k).2.2.1 ∈ zU) (hv : fs[k]? = some v) (d : decode cc pc = .ok (.getfield index, 3)) (kk : zJ E x (pc + 3) lv (v :: st) M) : zJ E x pc lv (.ref (E.2.2.2 c) :: st) M := fun H locs ls hl2 hP hS =>
  va_get (C := C) (T := T) (N := N) (Ts := zU) (ref := (T k).1) hx.1 hx.2.1 hx.2.2.2.2.1 hin hx.2.2.2.1 hx.2.2.2.2.2.1.1 hP c ((zwd_get E M hc).trans (by rw [hs])) hci k hk (hx.2.2.2.2.1 _ hl) (fun _ h => h) hv d (kk H locs ls hl2 hP hS)
theorem z_put (hx : zOk E x cc own nL R) {c ci k N index : Nat} {C : String} {T : u_T} {ty0 : Nat → FieldType} {ty : FieldType} {fs : List Value} {v : Value} {g : Nat → Int32} {h : Nat → Int64} (hc : c < 100) (hs : zsh E.2.2.1 E.2.2.2 (M.1 c) (M.2 c) c = .inr (ci, fs)) (hs2 : zsh E.2.2.1 E.2.2.2 g h c = .inr (ci, fs.set k v)) (hci : vwCl[ci]? = some (C, T, N)) (hin : ∀ w ∈ u_ws C T N, w ∈ zU) (hty : ∀ k, k < N → parseFieldDescriptor (T k).2.2.1 = some (ty0 k)) (hnm : ∀ a, a < N → ∀ b, b < N → a ≠ b → (T a).2.1 ≠ (T b).2.1) (hk : k < N) (hl : Cond.fieldLink own index (T k).1 (T k).2.1 (T k).2.2.1 ∈ zU) (hfin : (T k).2.2.2 = false) (hd : parseFieldDescriptor (T k).2.2.1 = some ty) (hn : narrow ty v = v) (hfit : fits ty v = true) (hlen : k < fs.length) (d : decode cc pc = .ok (.putfield index, 3)) (kk : zJ E x (pc + 3) lv st (va_up M.1 c g, va_up M.2 c h)) : zJ E x pc lv (v :: .ref (E.2.2.2 c) :: st) M := fun H locs ls hl2 hP hS =>
  va_put (C := C) (T := T) (N := N) (Ts := zU) (ref := (T k).1) hx.1 hx.2.1 hx.2.2.2.2.1 hin ty0 hty hnm hx.2.2.2.1 hx.2.2.2.2.2.1.1 hP (zwd_D E M hx.2.2.2.2.2.2.1) hS c ((zwd_get E M hc).trans (by rw [hs])) hci k hk (hx.2.2.2.2.1 _ hl) (fun _ h => h) hfin hd hn hfit hlen d (fun H1 locs1 hP1 _ hS1 => kk H1 locs1 ls hl2 (by rw [← zwd_set E M hc g h, hs2]; exact hP1) hS1)
theorem z_iald (hx : zOk E x cc own nL R) {c n : Nat} {i : Int32} (hc : c < 100) (hs : zsh E.2.2.1 E.2.2.2 (M.1 c) (M.2 c) c = .inl (E.2.2.1 0, n, .inl (M.1 c))) (hin : vp_in i n) (d : decode cc pc = .ok (.iaload, 1)) (kk : zJ E x (pc + 1) lv (.int (M.1 c i.toNatClampNeg) :: st) M) : zJ E x pc lv (.int i :: .ref (E.2.2.2 c) :: st) M := fun H locs ls hl2 hP hS =>
  va_iald hx.1 hx.2.1 hx.2.2.2.2.2.1.1 hP c 0 ((zwd_get E M hc).trans (by rw [hs])) rfl hin d (kk H locs ls hl2 hP hS)
theorem z_zald (hx : zOk E x cc own nL R) {c n : Nat} {i : Int32} (hc : c < 100) (hs : zsh E.2.2.1 E.2.2.2 (M.1 c) (M.2 c) c = .inl (E.2.2.1 2, n, .inl (M.1 c))) (hin : vp_in i n) (d : decode cc pc = .ok (.baload, 1)) (kk : zJ E x (pc + 1) lv (.int (M.1 c i.toNatClampNeg) :: st) M) : zJ E x pc lv (.int i :: .ref (E.2.2.2 c) :: st) M := fun H locs ls hl2 hP hS =>
  va_zald hx.1 hx.2.1 hx.2.2.2.2.2.1.1 hP c 2 ((zwd_get E M hc).trans (by rw [hs])) rfl hin d (kk H locs ls hl2 hP hS)
theorem z_lald (hx : zOk E x cc own nL R) {c n : Nat} {i : Int32} (hc : c < 100) (hs : zsh E.2.2.1 E.2.2.2 (M.1 c) (M.2 c) c = .inl (E.2.2.1 1, n, .inr (.inl (M.2 c)))) (hin : vp_in i n) (d : decode cc pc = .ok (.laload, 1)) (kk : zJ E x (pc + 1) lv (.long (M.2 c i.toNatClampNeg) :: st) M) : zJ E x pc lv (.int i :: .ref (E.2.2.2 c) :: st) M := fun H locs ls hl2 hP hS =>
  va_lald hx.1 hx.2.1 hx.2.2.2.2.2.1.1 hP c 1 ((zwd_get E M hc).trans (by rw [hs])) rfl hin d (kk H locs ls hl2 hP hS)
theorem z_iast (hx : zOk E x cc own nL R) {c n : Nat} {i v : Int32} (hc : c < 100) (hs : ∀ g, zsh E.2.2.1 E.2.2.2 g (M.2 c) c = .inl (E.2.2.1 0, n, .inl g)) (hin : vp_in i n) (d : decode cc pc = .ok (.iastore, 1)) (kk : zJ E x (pc + 1) lv st (zputI M c i.toNatClampNeg v)) : zJ E x pc lv (.int v :: .int i :: .ref (E.2.2.2 c) :: st) M := fun H locs ls hl2 hP hS =>
  va_iast hx.1 hx.2.1 hx.2.2.2.2.2.1.1 hP (zwd_D E M hx.2.2.2.2.2.2.1) hS c 0 ((zwd_get E M hc).trans (by rw [hs])) rfl hin d (fun H1 locs1 hP1 _ hS1 => kk H1 locs1 ls hl2 (by
    have e := zwd_set E M hc (upd (M.1 c) i.toNatClampNeg v) (M.2 c)
    rw [zup_self, hs] at e
    unfold zputI
    rw [← e]; exact hP1) hS1)
theorem z_zast (hx : zOk E x cc own nL R) {c n : Nat} {i v : Int32} (hc : c < 100) (hs : ∀ g, zsh E.2.2.1 E.2.2.2 g (M.2 c) c = .inl (E.2.2.1 2, n, .inl g)) (hin : vp_in i n) (hv : vp_nar .boolean v = v) (d : decode cc pc = .ok (.bastore, 1)) (kk : zJ E x (pc + 1) lv st (zputI M c i.toNatClampNeg v)) : zJ E x pc lv (.int v :: .int i :: .ref (E.2.2.2 c) :: st) M := fun H locs ls hl2 hP hS =>
  va_zast hx.1 hx.2.1 hx.2.2.2.2.2.1.1 hP (zwd_D E M hx.2.2.2.2.2.2.1) hS c 2 ((zwd_get E M hc).trans (by rw [hs])) rfl hin d (fun H1 locs1 hP1 _ hS1 => kk H1 locs1 ls hl2 (by
    have e := zwd_set E M hc (upd (M.1 c) i.toNatClampNeg v) (M.2 c)
    rw [zup_self, hs] at e
    rw [hv] at hP1
    unfold zputI
    rw [← e]; exact hP1) hS1)
theorem z_last (hx : zOk E x cc own nL R) {c n : Nat} {i : Int32} {v : Int64} (hc : c < 100) (hs : ∀ h, zsh E.2.2.1 E.2.2.2 (M.1 c) h c = .inl (E.2.2.1 1, n, .inr (.inl h))) (hin : vp_in i n) (d : decode cc pc = .ok (.lastore, 1)) (kk : zJ E x (pc + 1) lv st (zputJ M c i.toNatClampNeg v)) : zJ E x pc lv (.long v :: .int i :: .ref (E.2.2.2 c) :: st) M := fun H locs ls hl2 hP hS =>
  va_last hx.1 hx.2.1 hx.2.2.2.2.2.1.1 hP (zwd_D E M hx.2.2.2.2.2.2.1) hS c 1 ((zwd_get E M hc).trans (by rw [hs])) rfl hin d (fun H1 locs1 hP1 _ hS1 => kk H1 locs1 ls hl2 (by
    have e := zwd_set E M hc (M.1 c) (vp_updL (M.2 c) i.toNatClampNeg v)
    rw [zup_self, hs] at e
    unfold zputJ
    rw [← e]; exact hP1) hS1)
theorem z_aald (hx : zOk E x cc own nL R) {c n b t0 : Nat} {cA : ClassId} {ty : FieldType} {f : Nat → Option Nat} {i : Int32} (hc : c < 100) (hs : zsh E.2.2.1 E.2.2.2 (M.1 c) (M.2 c) c = .inl (cA, n, .inr (.inr (.inr (.inr f))))) (ht : (ztys E)[t0]? = some (cA, ty)) (hr : ty.isReference = true) (hin : vp_in i n) (hf : f i.toNatClampNeg = some b) (d : decode cc pc = .ok (.aaload, 1)) (kk : zJ E x (pc + 1) lv (.ref b :: st) M) : zJ E x pc lv (.int i :: .ref (E.2.2.2 c) :: st) M := fun H locs ls hl2 hP hS => by
  have hlt : i.toNatClampNeg < n := Nat.not_le.mp fun q => hin (Or.inr q)
  have ha : (zwd E M)[c]? = some (E.2.2.2 c, .inl (cA, n, .inr (.inr (.inr (.inr f))))) := (zwd_get E M hc).trans (by rw [hs])
  exact W.aald (v := .ref b) (ty := ty) hx.1 hx.2.1 (hP c _ ha) ((hx.2.2.2.2.2.1.1.2 t0 _ ht).1 n (fun j => va_rf (f j))) hr (fun q => by cases q) (by show ¬ (i < 0 ∨ (arrV _ _ _).slots.size ≤ _); rw [arrV_size]; exact hin) (by show (arrV _ _ _).slots[_]? = _; rw [arrV_read _ _ hlt, hf]; rfl) rfl rfl d (kk H locs ls hl2 hP hS)
theorem z_copyi (hx : zOk E x cc own nL R) {c0 c1 n0 n1 index : Nat} {sp dp n : Int32} (hc0 : c0 < 100) (hc1 : c1 < 100) (hs0 : zsh E.2.2.1 E.2.2.2 (M.1 c0) (M.2 c0) c0 = .inl (E.2.2.1 0, n0, .inl (M.1 c0))) (hs1 : ∀ g, zsh E.2.2.1 E.2.2.2 g (M.2 c1) c1 = .inl (E.2.2.1 0, n1, .inl g)) (hl : Cond.methodLink own index arraycopyName ∈ zU) (h1 : ¬ sp < 0) (h2 : ¬ dp < 0) (h3 : ¬ n < 0) (h4 : sp.toNatClampNeg + n.toNatClampNeg ≤ n0) (h5 : dp.toNatClampNeg + n.toNatClampNeg ≤ n1) (hfr : 1 ≤ R.frames) (hlo : (st.map fun v => v.category).sum + (nativeFrameWords "java/lang/System" "arraycopy" 5 + 11) ≤ R.locals) (d : decode cc pc = .ok (.invokestatic index, 3)) (kk : zJ E x (pc + 3) lv st (zsetI M c1 (va_cpy (M.1 c0) (M.1 c1) sp.toNatClampNeg dp.toNatClampNeg n.toNatClampNeg))) : zJ E x pc lv (.int n :: .int dp :: .ref (E.2.2.2 c1) :: .int sp :: .ref (E.2.2.2 c0) :: st) M := fun H locs ls hl2 hP hS =>
  va_copyi (ty := .int) hx.1 hx.2.1 hl2.1.symm hx.2.2.2.1 (hx.2.2.2.2.1 _ hl) (hx.2.2.2.2.1 _ zcp_nat) (hx.2.2.2.2.1 _ zcp_st) (hx.2.2.2.2.1 _ zcp_in) hx.2.2.2.2.2.1.1 hP (zwd_D E M hx.2.2.2.2.2.2.1) hS c0 c1 0 0 ((zwd_get E M hc0).trans (by rw [hs0])) ((zwd_get E M hc1).trans (by rw [hs1])) rfl rfl rfl h1 h2 h3 h4 h5 (fun _ _ => rfl) (by rw [hx.2.2.2.2.2.2.2]; exact hfr) (by rw [hx.2.2.2.2.2.2.2]; exact hlo) d (fun H1 locs1 hP1 _ hS1 => kk H1 locs1 ls hl2 (by
    have e := zwd_set E M hc1 (va_cpy (M.1 c0) (M.1 c1) sp.toNatClampNeg dp.toNatClampNeg n.toNatClampNeg) (M.2 c1)
    rw [zup_self, hs1] at e
    unfold zsetI
    rw [← e]; exact hP1) hS1)
theorem z_copyl (hx : zOk E x cc own nL R) {c0 c1 n0 n1 index : Nat} {sp dp n : Int32} (hc0 : c0 < 100) (hc1 : c1 < 100) (hs0 : zsh E.2.2.1 E.2.2.2 (M.1 c0) (M.2 c0) c0 = .inl (E.2.2.1 1, n0, .inr (.inl (M.2 c0)))) (hs1 : ∀ h, zsh E.2.2.1 E.2.2.2 (M.1 c1) h c1 = .inl (E.2.2.1 1, n1, .inr (.inl h))) (hl : Cond.methodLink own index arraycopyName ∈ zU) (h1 : ¬ sp < 0) (h2 : ¬ dp < 0) (h3 : ¬ n < 0) (h4 : sp.toNatClampNeg + n.toNatClampNeg ≤ n0) (h5 : dp.toNatClampNeg + n.toNatClampNeg ≤ n1) (hfr : 1 ≤ R.frames) (hlo : (st.map fun v => v.category).sum + (nativeFrameWords "java/lang/System" "arraycopy" 5 + 11) ≤ R.locals) (d : decode cc pc = .ok (.invokestatic index, 3)) (kk : zJ E x (pc + 3) lv st (zsetJ M c1 (va_cpy (M.2 c0) (M.2 c1) sp.toNatClampNeg dp.toNatClampNeg n.toNatClampNeg))) : zJ E x pc lv (.int n :: .int dp :: .ref (E.2.2.2 c1) :: .int sp :: .ref (E.2.2.2 c0) :: st) M := fun H locs ls hl2 hP hS =>
  va_copyl (ty := .long) hx.1 hx.2.1 hl2.1.symm hx.2.2.2.1 (hx.2.2.2.2.1 _ hl) (hx.2.2.2.2.1 _ zcp_nat) (hx.2.2.2.2.1 _ zcp_st) (hx.2.2.2.2.1 _ zcp_in) hx.2.2.2.2.2.1.1 hP (zwd_D E M hx.2.2.2.2.2.2.1) hS c0 c1 1 1 ((zwd_get E M hc0).trans (by rw [hs0])) ((zwd_get E M hc1).trans (by rw [hs1])) rfl rfl rfl h1 h2 h3 h4 h5 (fun _ _ => rfl) (by rw [hx.2.2.2.2.2.2.2]; exact hfr) (by rw [hx.2.2.2.2.2.2.2]; exact hlo) d (fun H1 locs1 hP1 _ hS1 => kk H1 locs1 ls hl2 (by
    have e := zwd_set E M hc1 (M.1 c1) (va_cpy (M.2 c0) (M.2 c1) sp.toNatClampNeg dp.toNatClampNeg n.toNatClampNeg)
    rw [zup_self, hs1] at e
    unfold zsetJ
    rw [← e]; exact hP1) hS1)
theorem z_min (hx : zOk E x cc own nL R) {index : Nat} {a b : Int32} (hl : Cond.methodLink own index Lib.Math.min.name ∈ zU) (hfr : 1 ≤ R.frames) (hlo : (st.map fun v => v.category).sum + 13 ≤ R.locals) (d : decode cc pc = .ok (.invokestatic index, 3)) (kk : zJ E x (pc + 3) lv (.int (if b < a then b else a) :: st) M) : zJ E x pc lv (.int b :: .int a :: st) M := fun H locs ls hl2 hP hS =>
  va_mmin hx.1 hx.2.1 hl2.1.symm hx.2.2.2.1 (hx.2.2.2.2.1 _ hl) (hx.2.2.2.2.1 _ zw_258) (hx.2.2.2.2.1 _ zw_46) (hx.2.2.2.2.1 _ zw_259) (by rw [hx.2.2.2.2.2.2.2]; exact hfr) (by rw [hx.2.2.2.2.2.2.2]; exact hlo) (Nat.zero_le _) (Nat.zero_le _) d (kk H locs ls hl2 hP hS)
theorem z_abs (hx : zOk E x cc own nL R) {index : Nat} {a : Int64} (hl : Cond.methodLink own index Lib.MathLoose.abs_long.x ∈ zU) (hfr : 1 ≤ R.frames) (hlo : (st.map fun v => v.category).sum + 13 ≤ R.locals) (d : decode cc pc = .ok (.invokestatic index, 3)) (kk : zJ E x (pc + 3) lv (.long (if 0 < a then a else -a) :: st) M) : zJ E x pc lv (.long a :: st) M := fun H locs ls hl2 hP hS =>
  va_mabs_long hx.1 hx.2.1 hl2.1.symm hx.2.2.2.1 (hx.2.2.2.2.1 _ hl) (hx.2.2.2.2.1 _ zw_417) (hx.2.2.2.2.1 _ zw_46) (hx.2.2.2.2.1 _ zw_418) (by rw [hx.2.2.2.2.2.2.2]; exact hfr) (by rw [hx.2.2.2.2.2.2.2]; exact hlo) (Nat.zero_le _) (Nat.zero_le _) d (kk H locs ls hl2 hP hS)
theorem z_eqi {a b : Int32} (h : a = b) (k : zJ E x pc lv (.int b :: st) M) : zJ E x pc lv (.int a :: st) M := h ▸ k
theorem z_eql {a b : Int64} (h : a = b) (k : zJ E x pc lv (.long b :: st) M) : zJ E x pc lv (.long a :: st) M := h ▸ k
theorem z_nmi {a : Int32} (k : ∀ v : Int32, v = a → zJ E x pc lv (.int v :: st) M) : zJ E x pc lv (.int a :: st) M := k a rfl
theorem z_nml {a : Int64} (k : ∀ v : Int64, v = a → zJ E x pc lv (.long v :: st) M) : zJ E x pc lv (.long a :: st) M := k a rfl
theorem z_nmM (k : ∀ M1 : zM, M1 = M → zJ E x pc lv st M1) : zJ E x pc lv st M := k M rfl
theorem z_to {lv2 : List (Nat × Value)} {M2 : zM} (k : zJ E x pc lv2 st M2) (ks : List Nat) (h : lv_pick lv ks = lv2) (hM : M = M2) : zJ E x pc lv st M := hM ▸ (z_lv ks h k)
theorem z_iconst_n (hx : zOk E x cc own nL R) {n : Int} {v : Nat} (d : decode cc pc = .ok (.iconst n, 1)) (hv : Int32.ofInt n = nI v) (k : zJ E x (pc + 1) lv (.int (nI v) :: st) M) : zJ E x pc lv st M := z_iconst hx d hv k
theorem z_iadd_n (hx : zOk E x cc own nL R) {a b : Nat} (d : decode cc pc = .ok (.iadd, 1)) (k : zJ E x (pc + 1) lv (.int (nI (a + b)) :: st) M) : zJ E x pc lv (.int (nI b) :: .int (nI a) :: st) M := z_iadd hx d (by rw [nI_add]; exact k)
theorem z_imul_n (hx : zOk E x cc own nL R) {a b : Nat} (d : decode cc pc = .ok (.imul, 1)) (k : zJ E x (pc + 1) lv (.int (nI (a * b)) :: st) M) : zJ E x pc lv (.int (nI b) :: .int (nI a) :: st) M := z_imul hx d (by rw [pk_mul]; exact k)
theorem z_isub_n (hx : zOk E x cc own nL R) {a b : Nat} (h : b ≤ a) (d : decode cc pc = .ok (.isub, 1)) (k : zJ E x (pc + 1) lv (.int (nI (a - b)) :: st) M) : zJ E x pc lv (.int (nI b) :: .int (nI a) :: st) M := z_isub hx d (by rw [pk_sub h]; exact k)
theorem z_idiv_n (hx : zOk E x cc own nL R) {a b : Nat} (ha : a < 2 ^ 31) (h0 : 0 < b) (hb : b < 2 ^ 31) (d : decode cc pc = .ok (.idiv, 1)) (k : zJ E x (pc + 1) lv (.int (nI (a / b)) :: st) M) : zJ E x pc lv (.int (nI b) :: .int (nI a) :: st) M := z_idiv hx d (nI_ne0 h0 hb) (by rw [pk_div ha h0 hb]; exact k)
theorem z_irem_n (hx : zOk E x cc own nL R) {a b : Nat} (ha : a < 2 ^ 31) (h0 : 0 < b) (hb : b < 2 ^ 31) (d : decode cc pc = .ok (.irem, 1)) (k : zJ E x (pc + 1) lv (.int (nI (a % b)) :: st) M) : zJ E x pc lv (.int (nI b) :: .int (nI a) :: st) M := z_irem hx d (nI_ne0 h0 hb) (by rw [pk_rem ha h0 hb]; exact k)
theorem z_inc (k : Nat) : nI k + Int32.ofInt 1 = nI (k + 1) := nI_1 k
theorem z_dec (k : Nat) : nI (k + 1) + Int32.ofInt (-1) = nI k := pk_m1 k
theorem z_icmp_eq_n (hx : zOk E x cc own nL R) {a b : Nat} {off : Int} {tgt : Nat} (ha : a < 2 ^ 31) (hb : b < 2 ^ 31) (d : decode cc pc = .ok (.if_icmp .eq off, 3)) (ht : (pc : Int) + off = (tgt : Int)) (kt : a = b → zJ E x tgt lv st M) (kf : ¬ a = b → zJ E x (pc + 3) lv st M) : zJ E x pc lv (.int (nI b) :: .int (nI a) :: st) M := z_icmp_eq hx d ht (fun q => kt (by first | exact (nI_eq ha hb).mp q | exact (Nat.not_lt.mp (fun e => q ((nI_ltI ha hb).mpr e))) | exact (Nat.not_le.mp (fun e => q ((nI_leI ha hb).mpr e))))) (fun q => kf (by first | exact fun e => q ((nI_eq ha hb).mpr e) | exact (nI_leI hb ha).mp q | exact (nI_ltI hb ha).mp q | exact (nI_ltI ha hb).mp q | exact (nI_leI ha hb).mp q))
theorem z_icmp_ne_n (hx : zOk E x cc own nL R) {a b : Nat} {off : Int} {tgt : Nat} (ha : a < 2 ^ 31) (hb : b < 2 ^ 31) (d : decode cc pc = .ok (.if_icmp .ne off, 3)) (ht : (pc : Int) + off = (tgt : Int)) (kt : ¬ a = b → zJ E x tgt lv st M) (kf : a = b → zJ E x (pc + 3) lv st M) : zJ E x pc lv (.int (nI b) :: .int (nI a) :: st) M := z_icmp_ne hx d ht (fun q => kt (by first | exact fun e => q ((nI_eq ha hb).mpr e) | exact (Nat.not_lt.mp (fun e => q ((nI_ltI ha hb).mpr e))) | exact (Nat.not_le.mp (fun e => q ((nI_leI ha hb).mpr e))))) (fun q => kf (by first | exact (nI_eq ha hb).mp q | exact (nI_leI hb ha).mp q | exact (nI_ltI hb ha).mp q | exact (nI_ltI ha hb).mp q | exact (nI_leI ha hb).mp q))
theorem z_icmp_lt_n (hx : zOk E x cc own nL R) {a b : Nat} {off : Int} {tgt : Nat} (ha : a < 2 ^ 31) (hb : b < 2 ^ 31) (d : decode cc pc = .ok (.if_icmp .lt off, 3)) (ht : (pc : Int) + off = (tgt : Int)) (kt : a < b → zJ E x tgt lv st M) (kf : b ≤ a → zJ E x (pc + 3) lv st M) : zJ E x pc lv (.int (nI b) :: .int (nI a) :: st) M := z_icmp_lt hx d ht (fun q => kt (by first | exact (nI_ltI ha hb).mp q | exact (Nat.not_lt.mp (fun e => q ((nI_ltI ha hb).mpr e))) | exact (Nat.not_le.mp (fun e => q ((nI_leI ha hb).mpr e))))) (fun q => kf (by first | exact Nat.not_lt.mp (fun e => q ((nI_ltI ha hb).mpr e)) | exact (nI_leI hb ha).mp q | exact (nI_ltI hb ha).mp q | exact (nI_ltI ha hb).mp q | exact (nI_leI ha hb).mp q))
theorem z_icmp_ge_n (hx : zOk E x cc own nL R) {a b : Nat} {off : Int} {tgt : Nat} (ha : a < 2 ^ 31) (hb : b < 2 ^ 31) (d : decode cc pc = .ok (.if_icmp .ge off, 3)) (ht : (pc : Int) + off = (tgt : Int)) (kt : b ≤ a → zJ E x tgt lv st M) (kf : a < b → zJ E x (pc + 3) lv st M) : zJ E x pc lv (.int (nI b) :: .int (nI a) :: st) M := z_icmp_ge hx d ht (fun q => kt (by first | exact (nI_leI hb ha).mp q | exact (Nat.not_lt.mp (fun e => q ((nI_ltI ha hb).mpr e))) | exact (Nat.not_le.mp (fun e => q ((nI_leI ha hb).mpr e))))) (fun q => kf (by first | exact Nat.not_le.mp (fun e => q ((nI_leI hb ha).mpr e)) | exact (nI_leI hb ha).mp q | exact (nI_ltI hb ha).mp q | exact (nI_ltI ha hb).mp q | exact (nI_leI ha hb).mp q))
theorem z_icmp_gt_n (hx : zOk E x cc own nL R) {a b : Nat} {off : Int} {tgt : Nat} (ha : a < 2 ^ 31) (hb : b < 2 ^ 31) (d : decode cc pc = .ok (.if_icmp .gt off, 3)) (ht : (pc : Int) + off = (tgt : Int)) (kt : b < a → zJ E x tgt lv st M) (kf : a ≤ b → zJ E x (pc + 3) lv st M) : zJ E x pc lv (.int (nI b) :: .int (nI a) :: st) M := z_icmp_gt hx d ht (fun q => kt (by first | exact (nI_ltI hb ha).mp q | exact (Nat.not_lt.mp (fun e => q ((nI_ltI ha hb).mpr e))) | exact (Nat.not_le.mp (fun e => q ((nI_leI ha hb).mpr e))))) (fun q => kf (by first | exact Nat.not_lt.mp (fun e => q ((nI_ltI hb ha).mpr e)) | exact (nI_leI hb ha).mp q | exact (nI_ltI hb ha).mp q | exact (nI_ltI ha hb).mp q | exact (nI_leI ha hb).mp q))
theorem z_icmp_le_n (hx : zOk E x cc own nL R) {a b : Nat} {off : Int} {tgt : Nat} (ha : a < 2 ^ 31) (hb : b < 2 ^ 31) (d : decode cc pc = .ok (.if_icmp .le off, 3)) (ht : (pc : Int) + off = (tgt : Int)) (kt : a ≤ b → zJ E x tgt lv st M) (kf : b < a → zJ E x (pc + 3) lv st M) : zJ E x pc lv (.int (nI b) :: .int (nI a) :: st) M := z_icmp_le hx d ht (fun q => kt (by first | exact (nI_leI ha hb).mp q | exact (Nat.not_lt.mp (fun e => q ((nI_ltI ha hb).mpr e))) | exact (Nat.not_le.mp (fun e => q ((nI_leI ha hb).mpr e))))) (fun q => kf (by first | exact Nat.not_le.mp (fun e => q ((nI_leI ha hb).mpr e)) | exact (nI_leI hb ha).mp q | exact (nI_ltI hb ha).mp q | exact (nI_ltI ha hb).mp q | exact (nI_leI ha hb).mp q))
theorem z_if_eq_n (hx : zOk E x cc own nL R) {a : Nat} {off : Int} {tgt : Nat} (ha : a < 2 ^ 31) (d : decode cc pc = .ok (.ifCond .eq off, 3)) (ht : (pc : Int) + off = (tgt : Int)) (kt : a = 0 → zJ E x tgt lv st M) (kf : ¬ a = 0 → zJ E x (pc + 3) lv st M) : zJ E x pc lv (.int (nI a) :: st) M := z_if_eq hx d ht (fun q => kt (by rw [← nI_0] at q; exact (nI_eq ha (by decide)).mp q)) (fun q => kf (fun e => q (by rw [e]; exact nI_0)))
theorem z_if_ne_n (hx : zOk E x cc own nL R) {a : Nat} {off : Int} {tgt : Nat} (ha : a < 2 ^ 31) (d : decode cc pc = .ok (.ifCond .ne off, 3)) (ht : (pc : Int) + off = (tgt : Int)) (kt : ¬ a = 0 → zJ E x tgt lv st M) (kf : a = 0 → zJ E x (pc + 3) lv st M) : zJ E x pc lv (.int (nI a) :: st) M := z_if_ne hx d ht (fun q => kt (fun e => q (by rw [e]; exact nI_0))) (fun q => kf (by rw [← nI_0] at q; exact (nI_eq ha (by decide)).mp q))
theorem z_if_lt_n (hx : zOk E x cc own nL R) {a : Nat} {off : Int} {tgt : Nat} (ha : a < 2 ^ 31) (d : decode cc pc = .ok (.ifCond .lt off, 3)) (ht : (pc : Int) + off = (tgt : Int)) (kf : zJ E x (pc + 3) lv st M) : zJ E x pc lv (.int (nI a) :: st) M := z_if_lt hx d ht (fun q => absurd q (nI_pos ha)) (fun _ => kf)
def zIA (E : zE) (c n : Nat) : Prop := c < 100 ∧ n < 2 ^ 31 ∧ ∀ g h, zsh E.2.2.1 E.2.2.2 g h c = .inl (E.2.2.1 0, n, .inl g)
def zZA (E : zE) (c n : Nat) : Prop := c < 100 ∧ n < 2 ^ 31 ∧ ∀ g h, zsh E.2.2.1 E.2.2.2 g h c = .inl (E.2.2.1 2, n, .inl g)
def zJA (E : zE) (c n : Nat) : Prop := c < 100 ∧ n < 2 ^ 31 ∧ ∀ g h, zsh E.2.2.1 E.2.2.2 g h c = .inl (E.2.2.1 1, n, .inr (.inl h))
def zRA (E : zE) (c n b s t0 : Nat) : Prop := c < 100 ∧ n < 2 ^ 31 ∧ (∃ ty, (ztys E)[t0]? = some (E.2.2.1 t0, ty) ∧ ty.isReference = true) ∧ ∀ g h, zsh E.2.2.1 E.2.2.2 g h c = .inl (E.2.2.1 t0, n, .inr (.inr (.inr (.inr (fun i => if i < n then some (E.2.2.2 (b + s * i)) else none)))))
def zOB (E : zE) (c ci : Nat) : Prop := c < 100 ∧ ∀ g h, ∃ fs, zsh E.2.2.1 E.2.2.2 g h c = .inr (ci, fs)
theorem z_iald_n (hx : zOk E x cc own nL R) {c n k : Nat} (ha : zIA E c n) (hk : k < n) (d : decode cc pc = .ok (.iaload, 1)) (kk : zJ E x (pc + 1) lv (.int (M.1 c k) :: st) M) : zJ E x pc lv (.int (nI k) :: .ref (E.2.2.2 c) :: st) M := z_iald hx ha.1 (ha.2.2 _ _) (vp_in_nI hk ha.2.1) d (by rw [nI_clamp (Nat.lt_trans hk ha.2.1)]; exact kk)
theorem z_zald_n (hx : zOk E x cc own nL R) {c n k : Nat} (ha : zZA E c n) (hk : k < n) (d : decode cc pc = .ok (.baload, 1)) (kk : zJ E x (pc + 1) lv (.int (M.1 c k) :: st) M) : zJ E x pc lv (.int (nI k) :: .ref (E.2.2.2 c) :: st) M := z_zald hx ha.1 (ha.2.2 _ _) (vp_in_nI hk ha.2.1) d (by rw [nI_clamp (Nat.lt_trans hk ha.2.1)]; exact kk)
theorem z_lald_n (hx : zOk E x cc own nL R) {c n k : Nat} (ha : zJA E c n) (hk : k < n) (d : decode cc pc = .ok (.laload, 1)) (kk : zJ E x (pc + 1) lv (.long (M.2 c k) :: st) M) : zJ E x pc lv (.int (nI k) :: .ref (E.2.2.2 c) :: st) M := z_lald hx ha.1 (ha.2.2 _ _) (vp_in_nI hk ha.2.1) d (by rw [nI_clamp (Nat.lt_trans hk ha.2.1)]; exact kk)
theorem z_iast_n (hx : zOk E x cc own nL R) {c n k : Nat} {v : Int32} (ha : zIA E c n) (hk : k < n) (d : decode cc pc = .ok (.iastore, 1)) (kk : zJ E x (pc + 1) lv st (zputI M c k v)) : zJ E x pc lv (.int v :: .int (nI k) :: .ref (E.2.2.2 c) :: st) M := z_iast hx ha.1 (fun g => ha.2.2 g _) (vp_in_nI hk ha.2.1) d (by rw [nI_clamp (Nat.lt_trans hk ha.2.1)]; exact kk)
theorem z_zast_n (hx : zOk E x cc own nL R) {c n k : Nat} {v : Int32} (ha : zZA E c n) (hk : k < n) (hv : v = 0 ∨ v = 1) (d : decode cc pc = .ok (.bastore, 1)) (kk : zJ E x (pc + 1) lv st (zputI M c k v)) : zJ E x pc lv (.int v :: .int (nI k) :: .ref (E.2.2.2 c) :: st) M := z_zast hx ha.1 (fun g => ha.2.2 g _) (vp_in_nI hk ha.2.1) (by rcases hv with e | e <;> rw [e] <;> rfl) d (by rw [nI_clamp (Nat.lt_trans hk ha.2.1)]; exact kk)
theorem z_last_n (hx : zOk E x cc own nL R) {c n k : Nat} {v : Int64} (ha : zJA E c n) (hk : k < n) (d : decode cc pc = .ok (.lastore, 1)) (kk : zJ E x (pc + 1) lv st (zputJ M c k v)) : zJ E x pc lv (.long v :: .int (nI k) :: .ref (E.2.2.2 c) :: st) M := z_last hx ha.1 (fun h => ha.2.2 _ h) (vp_in_nI hk ha.2.1) d (by rw [nI_clamp (Nat.lt_trans hk ha.2.1)]; exact kk)
theorem z_aald_n (hx : zOk E x cc own nL R) {c n b s t0 k : Nat} (ha : zRA E c n b s t0) (hk : k < n) (d : decode cc pc = .ok (.aaload, 1)) (kk : zJ E x (pc + 1) lv (.ref (E.2.2.2 (b + s * k)) :: st) M) : zJ E x pc lv (.int (nI k) :: .ref (E.2.2.2 c) :: st) M := by
  obtain ⟨hc, hn, ⟨ty, ht, hr⟩, hs⟩ := ha
  exact z_aald hx hc (hs _ _) ht hr (vp_in_nI hk hn) (by rw [nI_clamp (Nat.lt_trans hk hn), if_pos hk]) d kk
end ZJ
abbrev zQ (E : zE) (P : Option Value → zM → Prop) : Array Value → State → Outcome → State → Prop := fun _ s0 oc t => (∃ (r : Option Value) (M2 : zM), oc = .returned r ∧ P r M2 ∧ va_P E.2.1 vwCl (zwd E M2) t.heap) ∧ va_F (zA E) s0 t
/-- a contract: called with av in memory M the method answers r, the memory is M2, and P r M2 -/
def zK (E : zE) (y : MethodName) (cd : Cond) (rm : Room) (av : List Value) (M : zM) (P : Option Value → zM → Prop) : Prop :=
  Met E.1 y (cd :: zU) rm (va_Pc av (fun U => va_P E.2.1 vwCl (zwd E M) U.heap ∧ zG E U)) (zQ E P) 0 0 (zA E)
abbrev zpi (P : Int32 → zM → Prop) : Option Value → zM → Prop := fun r M2 => ∃ v : Int32, r = some (.int v) ∧ P v M2
abbrev zpl (P : Int64 → zM → Prop) : Option Value → zM → Prop := fun r M2 => ∃ v : Int64, r = some (.long v) ∧ P v M2
abbrev zpv (P : zM → Prop) : Option Value → zM → Prop := fun r M2 => r = none ∧ P M2
def zrm (f l : Nat) : Room := { frames := f, cells := 0, slots := 0, locals := l }
theorem zBlind (E : zE) (M : zM) (av : List Value) : FrameBlind (va_Pc av (fun U => va_P E.2.1 vwCl (zwd E M) U.heap ∧ zG E U)) := fun a U g mk q => by
  obtain ⟨q0, qP, qK, qN⟩ := q
  exact ⟨q0, qP, va_K.moved (u := U) (U := U.calling g mk a) (Vm.Alike.refl U.vm) qK, va_Nw.same (u := U) (U := U.calling g mk a) rfl rfl qN⟩
theorem zG.warm {E : zE} {s U : State} (h : zG E s) (hW : s.WarmedH U.vm) : zG E U := ⟨va_K.moved hW.alike h.1, va_Nw.warmM hW h.2⟩
def zYV (y : MethodName) (bytes : ByteArray) (maxL : Nat) (ret : Option FieldType) (n : Nat) : Prop := Cond.instanceMethod y ∈ zU ∧ Cond.selects y.cls y y ∈ zU ∧ Cond.initialized y.cls ∈ zU ∧ Cond.code y bytes maxL ret ∈ zU ∧ (y.cls ≠ "java/lang/invoke/MethodHandle" ∧ y.cls ≠ "java/lang/invoke/VarHandle") ∧ (parseMethodDescriptor y.desc).map (fun d => d.parameters.length) = some n
def zYS (y : MethodName) (bytes : ByteArray) (maxL : Nat) (ret : Option FieldType) (n : Nat) : Prop := Cond.static y ∈ zU ∧ Cond.initialized y.cls ∈ zU ∧ Cond.code y bytes maxL ret ∈ zU ∧ (y.cls ≠ "java/lang/invoke/MethodHandle" ∧ y.cls ≠ "java/lang/invoke/VarHandle") ∧ (parseMethodDescriptor y.desc).map (fun d => d.parameters.length) = some n
section ZC
variable {E : zE} {x : zX} {cc : ByteArray} {own : String} {nL : Nat} {R : Room} {pc : Nat} {lv : List (Nat × Value)} {st : List Value} {M : zM}
theorem z_run {H : Heap} {locs : List Loc} {ls : Array Slot} {st0 : List Value} {P : Option Value → zM → Prop} (hr : va_Run x.1 E.1 x.2.1 x.2.2.1 x.2.2.2.1 x.2.2.2.2.1 x.2.2.2.2.2.1 x.2.2.2.2.2.2.1 x.2.2.2.2.2.2.2.1 x.2.2.2.2.2.2.2.2.1 H locs 0 0 0 0 (F0 x.2.2.2.2.1 pc ls st0) st (fun s0 oc t => (∃ (r : Option Value) (M2 : zM), oc = .returned r ∧ P r M2 ∧ va_P E.2.1 vwCl (zwd E M2) t.heap) ∧ va_F (zA E) s0 t) (zA E)) (hl : lv_has ls x.2.2.2.2.2.2.2.2.1.maxLocals lv) (hS : va_S (zA E) x.2.2.2.1.heap H locs) (kk : ∀ (r : Option Value) (M2 : zM), P r M2 → zJ E x (pc + 3) lv (r.toList ++ st) M2) : W x.1 E.1 x.2.1 x.2.2.1 x.2.2.2.1 x.2.2.2.2.1 x.2.2.2.2.2.1 x.2.2.2.2.2.2.1 x.2.2.2.2.2.2.2.1 x.2.2.2.2.2.2.2.2.1 H locs 0 0 x.2.2.2.2.2.2.2.2.2 (F0 x.2.2.2.2.1 pc ls st0) := by
  intro T hT X
  obtain ⟨v, st₀, t, T', L, h0, X', hL, e1, e2, ⟨⟨r, M2, hv, hp, hb⟩, hz, hk⟩, stp⟩ := hr T hT X
  cases hv
  rw [h0] at hz hk
  obtain ⟨t2, a1, b1⟩ := kk _ M2 hp T'.heap (locs ++ L) ls hl (by rw [e1]; exact hb)
    ⟨Nat.le_trans hS.1 (by rw [e1]; exact hz), fun q h1 h2 => by rw [e1, hk q (Nat.lt_of_lt_of_le h1 hS.1) h2]; exact hS.2.1 q h1 h2, fun q hq => by
      rcases List.mem_append.mp hq with h | h
      · exact hS.2.2 q h
      · exact hL q h⟩ T' rfl X'
  exact ⟨t2, stp t2 a1, b1⟩
theorem zU_cons {cd : Cond} (hc : cd ∈ zU) : GoodIn zU (cd :: zU) := fun w hw => by
  rcases List.mem_cons.mp hw with rfl | h
  · exact ⟨hc, zU_good hc⟩
  · exact ⟨h, zU_good h⟩
theorem z_callV (hx : zOk E x cc own nL R) {y : MethodName} {bytes : ByteArray} {maxL index n c ci : Nat} {q : vw_C} {ret : Option FieldType} {rm : Room} {As stk : List Value} {P : Option Value → zM → Prop} (hM : zK E y (.code y bytes maxL ret) rm (.ref (E.2.2.2 c) :: As) M P)
    (w1 : Cond.methodLink own index y ∈ zU) (hy : zYV y bytes maxL ret n) (hrm : rm.cells = 0 ∧ rm.slots = 0) (hR : rm.frames + 1 ≤ R.frames ∧ 8 + (maxL + 11) + rm.locals ≤ R.locals)
    (hob : zOB E c ci) (hci : vwCl[ci]? = some q) (hq : q.1 = y.cls) (hn : As.length = n) (hstk : stk = As.reverse ++ .ref (E.2.2.2 c) :: st) (hW : (st.map fun v => v.category).sum ≤ 8) (d : decode cc pc = .ok (.invokevirtual index, 3)) (kk : ∀ (r : Option Value) (M2 : zM), P r M2 → zJ E x (pc + 3) lv (r.toList ++ st) M2) : zJ E x pc lv stk M := fun H locs ls hl2 hP hS => by
  subst hstk
  obtain ⟨w2, w3, w4, w5, hd⟩ := hy
  obtain ⟨hc, hs⟩ := hob
  obtain ⟨fs, hs⟩ := hs (M.1 c) (M.2 c)
  refine z_run (va_runV (bytes := bytes) (maxL := maxL) (ret := ret) (C := y.cls) (As := As) (rest := st) ⟨hx.1, hx.2.1, hx.2.2.1, hx.2.2.2.1, hx.2.2.2.2.1⟩ hM ?_ ⟨zBlind E M _, ?_, fun U hU hWm => ⟨rfl, by rw [hU]; exact hP, hx.2.2.2.2.2.1.warm hWm⟩⟩ rfl hn (by show ls.size = nL; rw [hl2.1, hx.2.2.1]) rfl (lv_room hW) d ⟨by show 0 ≤ _; exact Nat.zero_le _, by show 0 ≤ _; exact Nat.zero_le _⟩) hl2 hS kk
  · have hR' : rm.frames + 1 ≤ x.2.2.1.frames ∧ 8 + (maxL + 11) + rm.locals ≤ x.2.2.1.locals := by rw [hx.2.2.2.2.2.2.2]; exact hR
    exact ⟨callB_of n hx.2.2.2.2.1 (zU_cons w5) rfl hrm.1 hrm.2 (hx.2.2.2.2.1 _ w4) (hx.2.2.2.2.1 _ w1) ⟨hd.1.1, hd.1.2, hd.2⟩ hR', hx.2.2.2.2.1 _ w2, hx.2.2.2.2.1 _ w3⟩
  · rw [← hq]
    exact va_recv hx.2.2.2.2.2.1.1 hP hci ((zwd_get E M hc).trans (by rw [hs]))
theorem z_callS (hx : zOk E x cc own nL R) {y : MethodName} {bytes : ByteArray} {maxL index n : Nat} {ret : Option FieldType} {rm : Room} {As stk : List Value} {P : Option Value → zM → Prop} (hM : zK E y (.code y bytes maxL ret) rm As M P)
    (w1 : Cond.methodLink own index y ∈ zU) (hy : zYS y bytes maxL ret n) (hrm : rm.cells = 0 ∧ rm.slots = 0) (hR : rm.frames + 1 ≤ R.frames ∧ 8 + (maxL + 11) + rm.locals ≤ R.locals)
    (hn : As.length = n) (hstk : stk = As.reverse ++ st) (hW : (st.map fun v => v.category).sum ≤ 8) (d : decode cc pc = .ok (.invokestatic index, 3)) (kk : ∀ (r : Option Value) (M2 : zM), P r M2 → zJ E x (pc + 3) lv (r.toList ++ st) M2) : zJ E x pc lv stk M := fun H locs ls hl2 hP hS => by
  subst hstk
  obtain ⟨w2, w4, w5, hd⟩ := hy
  refine z_run (va_runS (bytes := bytes) (maxL := maxL) (ret := ret) (As := As) (rest := st) ⟨hx.1, hx.2.1, hx.2.2.1, hx.2.2.2.1, hx.2.2.2.2.1⟩ hM ?_ ⟨zBlind E M _, fun U hU hWm => ⟨rfl, by rw [hU]; exact hP, hx.2.2.2.2.2.1.warm hWm⟩⟩ rfl hn (by show ls.size = nL; rw [hl2.1, hx.2.2.1]) rfl (lv_room hW) d ⟨by show 0 ≤ _; exact Nat.zero_le _, by show 0 ≤ _; exact Nat.zero_le _⟩) hl2 hS kk
  have hR' : rm.frames + 1 ≤ x.2.2.1.frames ∧ 8 + (maxL + 11) + rm.locals ≤ x.2.2.1.locals := by rw [hx.2.2.2.2.2.2.2]; exact hR
  exact ⟨callB_of n hx.2.2.2.2.1 (zU_cons w5) rfl hrm.1 hrm.2 (hx.2.2.2.2.1 _ w4) (hx.2.2.2.2.1 _ w1) ⟨hd.1.1, hd.1.2, hd.2⟩ hR', hx.2.2.2.2.1 _ w2⟩
theorem z_callN (hx : zOk E x cc RX1 nL R) {bytes : ByteArray} {maxL : Nat} {ret : Option FieldType} {rm : Room} {As stk : List Value} {P : Option Value → zM → Prop} (hM : zK E yX5_isLess (.code yX5_isLess bytes maxL ret) rm As M P)
    (hy : zYS yX5_isLess bytes maxL ret 4) (hrm : rm.cells = 0 ∧ rm.slots = 0) (hR : rm.frames + 1 ≤ R.frames ∧ 8 + (maxL + 11) + rm.locals ≤ R.locals)
    (hn : As.length = 4) (hstk : stk = As.reverse ++ st) (hW : (st.map fun v => v.category).sum ≤ 8) (d : decode cc pc = .ok (.invokestatic 95, 3)) (kk : ∀ (r : Option Value) (M2 : zM), P r M2 → zJ E x (pc + 3) lv (r.toList ++ st) M2) : zJ E x pc lv stk M := fun H locs ls hl2 hP hS => by
  subst hstk
  obtain ⟨w2, w4, w5, hd⟩ := hy
  have hR' : rm.frames + 1 ≤ x.2.2.1.frames ∧ 8 + (maxL + 11) + rm.locals ≤ x.2.2.1.locals := by rw [hx.2.2.2.2.2.2.2]; exact hR
  exact z_run (va_runSN (As := As) (rest := st) ⟨hx.1, hx.2.1, hx.2.2.1, hx.2.2.2.1, hx.2.2.2.2.1⟩ hM ⟨va_cnB 4 hx.2.2.2.2.1 (zU_cons w5) rfl hrm.1 hrm.2 hx.2.2.2.2.2.1.2 (hx.2.2.2.2.1 _ w4) ⟨hd.1.1, hd.1.2, hd.2⟩ hR', hx.2.2.2.2.1 _ w2, trivial⟩ ⟨zBlind E M _, fun U hU hWm => ⟨rfl, by rw [hU]; exact hP, hx.2.2.2.2.2.1.warm hWm⟩⟩ rfl hn (by show ls.size = nL; rw [hl2.1, hx.2.2.1]) rfl (lv_room hW) d ⟨by show 0 ≤ _; exact Nat.zero_le _, by show 0 ≤ _; exact Nat.zero_le _⟩) hl2 hS kk
end ZC
/-- weaken what a contract says -/
theorem zK_mono {E : zE} {y : MethodName} {cd : Cond} {rm : Room} {av : List Value} {M : zM} {P P2 : Option Value → zM → Prop} (h : zK E y cd rm av M P) (hp : ∀ r M2, P r M2 → P2 r M2) : zK E y cd rm av M P2 := by
  intro p e ha hc hk s m args below hf happ hpre hn
  obtain ⟨k, o, h1, h2, h3, ⟨⟨r, M2, q1, q2, q3⟩, q4⟩, h5⟩ := h p e ha hc hk s m args below hf happ hpre hn
  exact ⟨k, o, h1, h2, h3, ⟨⟨r, M2, q1, hp r M2 q2, q3⟩, q4⟩, h5⟩
/-- a body walked in the judgement gives the contract -/
theorem zK_of {E : zE} (hI : zI E) {y : MethodName} {cc : ByteArray} {nL : Nat} {ret : Option FieldType} {rm : Room} {av : List Value} {M : zM} {P : Option Value → zM → Prop} (hy : plainName y.cls = true) (hlen : (lg_sl av).length ≤ nL)
    (body : ∀ x : zX, zOk E x cc y.cls nL rm → (∀ (pc : Nat) (lv : List (Nat × Value)) (v : Int32) (M2 : zM), ret = some .int → P (some (.int v)) M2 → decode cc pc = .ok (.ireturn, 1) → zJ E x pc lv [.int v] M2) → (∀ (pc : Nat) (lv : List (Nat × Value)) (v : Int32) (M2 : zM), ret = some .boolean → (v = 0 ∨ v = 1) → P (some (.int v)) M2 → decode cc pc = .ok (.ireturn, 1) → zJ E x pc lv [.int v] M2) → (∀ (pc : Nat) (lv : List (Nat × Value)) (v : Int64) (M2 : zM), ret = some .long → P (some (.long v)) M2 → decode cc pc = .ok (.lreturn, 1) → zJ E x pc lv [.long v] M2) → (∀ (pc : Nat) (lv : List (Nat × Value)) (M2 : zM), ret = none → P none M2 → decode cc pc = .ok (.return_, 1) → zJ E x pc lv [] M2) → zJ E x 0 (lv_args 0 av) [] M) : zK E y (.code y cc nL ret) rm av M P := by
  refine Met.ofW (cc := cc) (maxL := nL) (ret := ret) hy rfl ?_
  intro p e s m args below meth c s₁ B hml hv
  obtain ⟨rfl, hP, hG⟩ := hv
  have hts := atoms_spec (ws := Cond.code y cc nL ret :: zU) B.pre
  have hlocks := B.notSynchronized
  have hr := B.returns
  have hl := lv_entry av (n := nL) hlen
  rw [lg_entry_eq]
  have key := body (p, e, rm, s, m, av.toArray, below, meth, c, MQ below (zQ E P) av.toArray s 0 0 (zA E)) ⟨B.exec, B.bytes, hml, findClass_of_methodNamed B.named, fun w hw => hts w (List.mem_cons_of_mem _ hw), hG, hI, rfl⟩
    (fun pc lv v M2 h1 h2 d H locs ls _ hP hS => W.iret (Qc := zQ E P) (free := zA E) (p := p) (l := E.1) (e := e) (R := rm) (s := s) (m := m) (args := av.toArray) (below := below) (meth := meth) (c := c) (cells := 0) (slots := 0) B.exec B.bytes (hr.trans h1) (fun t ht hW => ⟨⟨_, M2, rfl, h2, by rw [ht]; exact hP⟩, hS.F ht⟩) hS.2.2 d)
    (fun pc lv v M2 h1 hv h2 d H locs ls _ hP hS => W.zret (Qc := zQ E P) (free := zA E) (p := p) (l := E.1) (e := e) (R := rm) (s := s) (m := m) (args := av.toArray) (below := below) (meth := meth) (c := c) (cells := 0) (slots := 0) B.exec B.bytes (hr.trans h1) (by rcases hv with e | e <;> rw [e] <;> rfl) (fun t ht hW => ⟨⟨_, M2, rfl, h2, by rw [ht]; exact hP⟩, hS.F ht⟩) hS.2.2 d)
    (fun pc lv v M2 h1 h2 d H locs ls _ hP hS => W.lret (Qc := zQ E P) (free := zA E) (p := p) (l := E.1) (e := e) (R := rm) (s := s) (m := m) (args := av.toArray) (below := below) (meth := meth) (c := c) (cells := 0) (slots := 0) B.exec B.bytes (hr.trans h1) (fun t ht hW => ⟨⟨_, M2, rfl, h2, by rw [ht]; exact hP⟩, hS.F ht⟩) hS.2.2 d)
    (fun pc lv M2 h1 h2 d H locs ls _ hP hS => W.vret (Qc := zQ E P) (free := zA E) (p := p) (l := E.1) (e := e) (R := rm) (s := s) (m := m) (args := av.toArray) (below := below) (meth := meth) (c := c) (cells := 0) (slots := 0) B.exec B.bytes (hr.trans h1) (fun t ht hW => ⟨⟨_, M2, rfl, h2, by rw [ht]; exact hP⟩, hS.F ht⟩) hS.2.2 d)
  exact key s.heap [] _ (by show lv_has _ c.maxLocals _; rw [hml]; exact hl) hP va_S.rf
end
section
def zRoom (a : Nat) : Prop := ∃ k, k < 18 ∧ a = 46 + 3 * k
theorem zRoom_k {k : Nat} (h : k < 18) : zRoom (46 + 3 * k) := ⟨k, h, rfl⟩
theorem zRoom_46 : zRoom 46 := ⟨0, by decide, rfl⟩
theorem zRoom_49 : zRoom 49 := ⟨1, by decide, rfl⟩
theorem zRoom_b {k : Nat} (h : k < 14) : zRoom (52 + 3 * k) := ⟨2 + k, by omega, by omega⟩
theorem zRoom_s {k : Nat} (h : k < 2) : zRoom (94 + 3 * k) := ⟨16 + k, by omega, by omega⟩
theorem zRoom_lt {a : Nat} (h : zRoom a) : a + 2 < 100 := by obtain ⟨k, h1, h2⟩ := h; omega
theorem zRoom_ge {a : Nat} (h : zRoom a) : 46 ≤ a := by obtain ⟨k, h1, h2⟩ := h; omega
theorem zsh_room {a : Nat} (hr : zRoom a) (cy : Nat → ClassId) (ad : Nat → Nat) (g : Nat → Int32) (h : Nat → Int64) : zsh cy ad g h a = .inr (3, [.int (g 0), .int (g 1), .int (g 2), .ref (ad (a + 1)), .ref (ad (a + 2))]) := by
  obtain ⟨k, h1, rfl⟩ := hr
  unfold zsh
  rw [if_pos (by omega), if_pos (by omega)]
theorem zIA_codes {a : Nat} (hr : zRoom a) (E : zE) : zIA E (a + 1) 8 := by
  obtain ⟨k, h1, rfl⟩ := hr
  refine ⟨by omega, by decide, fun g h => ?_⟩
  unfold zsh
  rw [if_pos (by omega), if_neg (by omega)]
theorem zIA_reads {a : Nat} (hr : zRoom a) (E : zE) : zIA E (a + 2) 8 := by
  obtain ⟨k, h1, rfl⟩ := hr
  refine ⟨by omega, by decide, fun g h => ?_⟩
  unfold zsh
  rw [if_pos (by omega), if_neg (by omega)]
theorem zOB_room {a : Nat} (hr : zRoom a) (E : zE) : zOB E a 3 := ⟨by have := zRoom_lt hr; omega, fun g h => ⟨_, zsh_room hr _ _ g h⟩⟩
theorem zJA_row {c : Nat} (h1 : 15 ≤ c) (h2 : c < 32) (E : zE) : zJA E c 6 := by
  refine ⟨by omega, by decide, fun g h => ?_⟩
  unfold zsh
  rw [if_neg (by omega)]
  obtain ⟨k, rfl⟩ : ∃ k, c = 15 + k := ⟨c - 15, by omega⟩
  have hk : k < 17 := by omega
  unfold zsh0
  rcases (show k = 0 ∨ k = 1 ∨ k = 2 ∨ k = 3 ∨ k = 4 ∨ k = 5 ∨ k = 6 ∨ k = 7 ∨ k = 8 ∨ k = 9 ∨ k = 10 ∨ k = 11 ∨ k = 12 ∨ k = 13 ∨ k = 14 ∨ k = 15 ∨ k = 16 by omega) with rfl | rfl | rfl | rfl | rfl | rfl | rfl | rfl | rfl | rfl | rfl | rfl | rfl | rfl | rfl | rfl | rfl <;> rfl
theorem zIA_2 (E : zE) : zIA E 2 90 := ⟨by decide, by decide, fun _ _ => rfl⟩
theorem zIA_13 (E : zE) : zIA E 13 5 := ⟨by decide, by decide, fun _ _ => rfl⟩
theorem zIA_14 (E : zE) : zIA E 14 256 := ⟨by decide, by decide, fun _ _ => rfl⟩
theorem zIA_33 (E : zE) : zIA E 33 90 := ⟨by decide, by decide, fun _ _ => rfl⟩
theorem zIA_34 (E : zE) : zIA E 34 18 := ⟨by decide, by decide, fun _ _ => rfl⟩
theorem zIA_35 (E : zE) : zIA E 35 18 := ⟨by decide, by decide, fun _ _ => rfl⟩
theorem zIA_36 (E : zE) : zIA E 36 18 := ⟨by decide, by decide, fun _ _ => rfl⟩
theorem zIA_37 (E : zE) : zIA E 37 18 := ⟨by decide, by decide, fun _ _ => rfl⟩
theorem zIA_38 (E : zE) : zIA E 38 252 := ⟨by decide, by decide, fun _ _ => rfl⟩
theorem zIA_39 (E : zE) : zIA E 39 36 := ⟨by decide, by decide, fun _ _ => rfl⟩
theorem zIA_44 (E : zE) : zIA E 44 5 := ⟨by decide, by decide, fun _ _ => rfl⟩
theorem zIA_45 (E : zE) : zIA E 45 5 := ⟨by decide, by decide, fun _ _ => rfl⟩
theorem zZA_3 (E : zE) : zZA E 3 2 := ⟨by decide, by decide, fun _ _ => rfl⟩
theorem zZA_40 (E : zE) : zZA E 40 2 := ⟨by decide, by decide, fun _ _ => rfl⟩
theorem zJA_10 (E : zE) : zJA E 10 6 := ⟨by decide, by decide, fun _ _ => rfl⟩
theorem zJA_41 (E : zE) : zJA E 41 25 := ⟨by decide, by decide, fun _ _ => rfl⟩
theorem zJA_42 (E : zE) : zJA E 42 5 := ⟨by decide, by decide, fun _ _ => rfl⟩
theorem zJA_43 (E : zE) : zJA E 43 25 := ⟨by decide, by decide, fun _ _ => rfl⟩
theorem zRA_5 (E : zE) : zRA E 5 14 52 3 3 := ⟨by decide, by decide, ⟨_, rfl, rfl⟩, fun _ _ => rfl⟩
theorem zRA_6 (E : zE) : zRA E 6 2 94 3 3 := ⟨by decide, by decide, ⟨_, rfl, rfl⟩, fun _ _ => rfl⟩
theorem zRA_8 (E : zE) : zRA E 8 6 15 1 4 := ⟨by decide, by decide, ⟨_, rfl, rfl⟩, fun _ _ => rfl⟩
theorem zRA_9 (E : zE) : zRA E 9 6 21 1 4 := ⟨by decide, by decide, ⟨_, rfl, rfl⟩, fun _ _ => rfl⟩
theorem zRA_12 (E : zE) : zRA E 12 5 27 1 4 := ⟨by decide, by decide, ⟨_, rfl, rfl⟩, fun _ _ => rfl⟩
theorem zOB_X5 (E : zE) : zOB E 0 5 := ⟨by decide, fun _ _ => ⟨_, rfl⟩⟩
theorem zOB_X4 (E : zE) : zOB E 1 4 := ⟨by decide, fun _ _ => ⟨_, rfl⟩⟩
theorem zOB_X0 (E : zE) : zOB E 4 0 := ⟨by decide, fun _ _ => ⟨_, rfl⟩⟩
theorem zOB_X1 (E : zE) : zOB E 7 1 := ⟨by decide, fun _ _ => ⟨_, rfl⟩⟩
theorem zOB_X2 (E : zE) : zOB E 11 2 := ⟨by decide, fun _ _ => ⟨_, rfl⟩⟩
theorem zOB_X6 (E : zE) : zOB E 32 6 := ⟨by decide, fun _ _ => ⟨_, rfl⟩⟩
section ZF
variable {E : zE} {x : zX} {cc : ByteArray} {own : String} {nL : Nat} {R : Room} {pc : Nat} {lv : List (Nat × Value)} {st : List Value} {M : zM}
theorem zg_X0_0 (hx : zOk E x cc own nL R) {index : Nat} (hl : Cond.fieldLink own index "BalanceRoom$Acts" "before" "[LBalanceRoom$Room;" ∈ zU) (d : decode cc pc = .ok (.getfield index, 3)) (kk : zJ E x (pc + 3) lv (.ref (E.2.2.2 5) :: st) M) : zJ E x pc lv (.ref (E.2.2.2 4) :: st) M := z_get hx (c := 4) (ci := 0) (k := 0) (C := RX0) (T := TX0) (N := 3) (by decide) rfl rfl zin_X0 (by decide) hl rfl d kk
theorem zg_X0_1 (hx : zOk E x cc own nL R) {index : Nat} (hl : Cond.fieldLink own index "BalanceRoom$Acts" "oldest" "I" ∈ zU) (d : decode cc pc = .ok (.getfield index, 3)) (kk : zJ E x (pc + 3) lv (.int (M.1 4 1) :: st) M) : zJ E x pc lv (.ref (E.2.2.2 4) :: st) M := z_get hx (c := 4) (ci := 0) (k := 1) (C := RX0) (T := TX0) (N := 3) (by decide) rfl rfl zin_X0 (by decide) hl rfl d kk
theorem zp_X0_1 (hx : zOk E x cc own nL R) {index : Nat} {v : Int32} (hl : Cond.fieldLink own index "BalanceRoom$Acts" "oldest" "I" ∈ zU) (d : decode cc pc = .ok (.putfield index, 3)) (kk : zJ E x (pc + 3) lv st (zputI M 4 1 v)) : zJ E x pc lv (.int v :: .ref (E.2.2.2 4) :: st) M := z_put hx (c := 4) (ci := 0) (k := 1) (C := RX0) (T := TX0) (N := 3) (ty := .int) (v := .int v) (g := upd (M.1 4) 1 v) (h := M.2 4) (by decide) rfl rfl rfl zin_X0 tyX0_ok nmX0 (by decide) hl rfl (by decide +kernel) rfl rfl (Nat.le_of_ble_eq_true rfl) d (by rw [zup_self]; exact kk)
theorem zg_X0_2 (hx : zOk E x cc own nL R) {index : Nat} (hl : Cond.fieldLink own index "BalanceRoom$Acts" "size" "I" ∈ zU) (d : decode cc pc = .ok (.getfield index, 3)) (kk : zJ E x (pc + 3) lv (.int (M.1 4 2) :: st) M) : zJ E x pc lv (.ref (E.2.2.2 4) :: st) M := z_get hx (c := 4) (ci := 0) (k := 2) (C := RX0) (T := TX0) (N := 3) (by decide) rfl rfl zin_X0 (by decide) hl rfl d kk
theorem zp_X0_2 (hx : zOk E x cc own nL R) {index : Nat} {v : Int32} (hl : Cond.fieldLink own index "BalanceRoom$Acts" "size" "I" ∈ zU) (d : decode cc pc = .ok (.putfield index, 3)) (kk : zJ E x (pc + 3) lv st (zputI M 4 2 v)) : zJ E x pc lv (.int v :: .ref (E.2.2.2 4) :: st) M := z_put hx (c := 4) (ci := 0) (k := 2) (C := RX0) (T := TX0) (N := 3) (ty := .int) (v := .int v) (g := upd (M.1 4) 2 v) (h := M.2 4) (by decide) rfl rfl rfl zin_X0 tyX0_ok nmX0 (by decide) hl rfl (by decide +kernel) rfl rfl (Nat.le_of_ble_eq_true rfl) d (by rw [zup_self]; exact kk)
theorem zg_X1_0 (hx : zOk E x cc own nL R) {index : Nat} (hl : Cond.fieldLink own index "BalanceRoom$Fit" "sums" "[[J" ∈ zU) (d : decode cc pc = .ok (.getfield index, 3)) (kk : zJ E x (pc + 3) lv (.ref (E.2.2.2 8) :: st) M) : zJ E x pc lv (.ref (E.2.2.2 7) :: st) M := z_get hx (c := 7) (ci := 1) (k := 0) (C := RX1) (T := TX1) (N := 7) (by decide) rfl rfl zin_X1 (by decide) hl rfl d kk
theorem zg_X1_1 (hx : zOk E x cc own nL R) {index : Nat} (hl : Cond.fieldLink own index "BalanceRoom$Fit" "swept" "[[J" ∈ zU) (d : decode cc pc = .ok (.getfield index, 3)) (kk : zJ E x (pc + 3) lv (.ref (E.2.2.2 9) :: st) M) : zJ E x pc lv (.ref (E.2.2.2 7) :: st) M := z_get hx (c := 7) (ci := 1) (k := 1) (C := RX1) (T := TX1) (N := 7) (by decide) rfl rfl zin_X1 (by decide) hl rfl d kk
theorem zg_X1_2 (hx : zOk E x cc own nL R) {index : Nat} (hl : Cond.fieldLink own index "BalanceRoom$Fit" "line" "[J" ∈ zU) (d : decode cc pc = .ok (.getfield index, 3)) (kk : zJ E x (pc + 3) lv (.ref (E.2.2.2 10) :: st) M) : zJ E x pc lv (.ref (E.2.2.2 7) :: st) M := z_get hx (c := 7) (ci := 1) (k := 2) (C := RX1) (T := TX1) (N := 7) (by decide) rfl rfl zin_X1 (by decide) hl rfl d kk
theorem zg_X1_3 (hx : zOk E x cc own nL R) {index : Nat} (hl : Cond.fieldLink own index "BalanceRoom$Fit" "withDrift" "Z" ∈ zU) (d : decode cc pc = .ok (.getfield index, 3)) (kk : zJ E x (pc + 3) lv (.int (M.1 7 3) :: st) M) : zJ E x pc lv (.ref (E.2.2.2 7) :: st) M := z_get hx (c := 7) (ci := 1) (k := 3) (C := RX1) (T := TX1) (N := 7) (by decide) rfl rfl zin_X1 (by decide) hl rfl d kk
theorem zp_X1_3 (hx : zOk E x cc own nL R) {index : Nat} {v : Int32} (hv : v = 0 ∨ v = 1) (hl : Cond.fieldLink own index "BalanceRoom$Fit" "withDrift" "Z" ∈ zU) (d : decode cc pc = .ok (.putfield index, 3)) (kk : zJ E x (pc + 3) lv st (zputI M 7 3 v)) : zJ E x pc lv (.int v :: .ref (E.2.2.2 7) :: st) M := z_put hx (c := 7) (ci := 1) (k := 3) (C := RX1) (T := TX1) (N := 7) (ty := .boolean) (v := .int v) (g := upd (M.1 7) 3 v) (h := M.2 7) (by decide) rfl rfl rfl zin_X1 tyX1_ok nmX1 (by decide) hl rfl (by decide +kernel) (by rcases hv with e | e <;> rw [e] <;> rfl) (by rcases hv with e | e <;> rw [e] <;> rfl) (Nat.le_of_ble_eq_true rfl) d (by rw [zup_self]; exact kk)
theorem zg_X1_4 (hx : zOk E x cc own nL R) {index : Nat} (hl : Cond.fieldLink own index "BalanceRoom$Fit" "weightsHere" "I" ∈ zU) (d : decode cc pc = .ok (.getfield index, 3)) (kk : zJ E x (pc + 3) lv (.int (M.1 7 4) :: st) M) : zJ E x pc lv (.ref (E.2.2.2 7) :: st) M := z_get hx (c := 7) (ci := 1) (k := 4) (C := RX1) (T := TX1) (N := 7) (by decide) rfl rfl zin_X1 (by decide) hl rfl d kk
theorem zp_X1_4 (hx : zOk E x cc own nL R) {index : Nat} {v : Int32} (hl : Cond.fieldLink own index "BalanceRoom$Fit" "weightsHere" "I" ∈ zU) (d : decode cc pc = .ok (.putfield index, 3)) (kk : zJ E x (pc + 3) lv st (zputI M 7 4 v)) : zJ E x pc lv (.int v :: .ref (E.2.2.2 7) :: st) M := z_put hx (c := 7) (ci := 1) (k := 4) (C := RX1) (T := TX1) (N := 7) (ty := .int) (v := .int v) (g := upd (M.1 7) 4 v) (h := M.2 7) (by decide) rfl rfl rfl zin_X1 tyX1_ok nmX1 (by decide) hl rfl (by decide +kernel) rfl rfl (Nat.le_of_ble_eq_true rfl) d (by rw [zup_self]; exact kk)
theorem zg_X1_5 (hx : zOk E x cc own nL R) {index : Nat} (hl : Cond.fieldLink own index "BalanceRoom$Fit" "unknownsHere" "I" ∈ zU) (d : decode cc pc = .ok (.getfield index, 3)) (kk : zJ E x (pc + 3) lv (.int (M.1 7 5) :: st) M) : zJ E x pc lv (.ref (E.2.2.2 7) :: st) M := z_get hx (c := 7) (ci := 1) (k := 5) (C := RX1) (T := TX1) (N := 7) (by decide) rfl rfl zin_X1 (by decide) hl rfl d kk
theorem zp_X1_5 (hx : zOk E x cc own nL R) {index : Nat} {v : Int32} (hl : Cond.fieldLink own index "BalanceRoom$Fit" "unknownsHere" "I" ∈ zU) (d : decode cc pc = .ok (.putfield index, 3)) (kk : zJ E x (pc + 3) lv st (zputI M 7 5 v)) : zJ E x pc lv (.int v :: .ref (E.2.2.2 7) :: st) M := z_put hx (c := 7) (ci := 1) (k := 5) (C := RX1) (T := TX1) (N := 7) (ty := .int) (v := .int v) (g := upd (M.1 7) 5 v) (h := M.2 7) (by decide) rfl rfl rfl zin_X1 tyX1_ok nmX1 (by decide) hl rfl (by decide +kernel) rfl rfl (Nat.le_of_ble_eq_true rfl) d (by rw [zup_self]; exact kk)
theorem zg_X1_6 (hx : zOk E x cc own nL R) {index : Nat} (hl : Cond.fieldLink own index "BalanceRoom$Fit" "below" "J" ∈ zU) (d : decode cc pc = .ok (.getfield index, 3)) (kk : zJ E x (pc + 3) lv (.long (M.2 7 6) :: st) M) : zJ E x pc lv (.ref (E.2.2.2 7) :: st) M := z_get hx (c := 7) (ci := 1) (k := 6) (C := RX1) (T := TX1) (N := 7) (by decide) rfl rfl zin_X1 (by decide) hl rfl d kk
theorem zp_X1_6 (hx : zOk E x cc own nL R) {index : Nat} {v : Int64} (hl : Cond.fieldLink own index "BalanceRoom$Fit" "below" "J" ∈ zU) (d : decode cc pc = .ok (.putfield index, 3)) (kk : zJ E x (pc + 3) lv st (zputJ M 7 6 v)) : zJ E x pc lv (.long v :: .ref (E.2.2.2 7) :: st) M := z_put hx (c := 7) (ci := 1) (k := 6) (C := RX1) (T := TX1) (N := 7) (ty := .long) (v := .long v) (g := M.1 7) (h := vp_updL (M.2 7) 6 v) (by decide) rfl rfl rfl zin_X1 tyX1_ok nmX1 (by decide) hl rfl (by decide +kernel) rfl rfl (Nat.le_of_ble_eq_true rfl) d (by rw [zup_self]; exact kk)
theorem zg_X2_0 (hx : zOk E x cc own nL R) {index : Nat} (hl : Cond.fieldLink own index "BalanceRoom$Ranks" "basis" "[[J" ∈ zU) (d : decode cc pc = .ok (.getfield index, 3)) (kk : zJ E x (pc + 3) lv (.ref (E.2.2.2 12) :: st) M) : zJ E x pc lv (.ref (E.2.2.2 11) :: st) M := z_get hx (c := 11) (ci := 2) (k := 0) (C := RX2) (T := TX2) (N := 3) (by decide) rfl rfl zin_X2 (by decide) hl rfl d kk
theorem zg_X2_1 (hx : zOk E x cc own nL R) {index : Nat} (hl : Cond.fieldLink own index "BalanceRoom$Ranks" "leads" "[I" ∈ zU) (d : decode cc pc = .ok (.getfield index, 3)) (kk : zJ E x (pc + 3) lv (.ref (E.2.2.2 13) :: st) M) : zJ E x pc lv (.ref (E.2.2.2 11) :: st) M := z_get hx (c := 11) (ci := 2) (k := 1) (C := RX2) (T := TX2) (N := 3) (by decide) rfl rfl zin_X2 (by decide) hl rfl d kk
theorem zg_X2_2 (hx : zOk E x cc own nL R) {index : Nat} (hl : Cond.fieldLink own index "BalanceRoom$Ranks" "ofSet" "[I" ∈ zU) (d : decode cc pc = .ok (.getfield index, 3)) (kk : zJ E x (pc + 3) lv (.ref (E.2.2.2 14) :: st) M) : zJ E x pc lv (.ref (E.2.2.2 11) :: st) M := z_get hx (c := 11) (ci := 2) (k := 2) (C := RX2) (T := TX2) (N := 3) (by decide) rfl rfl zin_X2 (by decide) hl rfl d kk
theorem zg_X3_0 (hx : zOk E x cc own nL R) {a : Nat} (ha : zRoom a) {index : Nat} (hl : Cond.fieldLink own index "BalanceRoom$Room" "weights" "I" ∈ zU) (d : decode cc pc = .ok (.getfield index, 3)) (kk : zJ E x (pc + 3) lv (.int (M.1 a 0) :: st) M) : zJ E x pc lv (.ref (E.2.2.2 a) :: st) M := z_get hx (c := a) (ci := 3) (k := 0) (C := RX3) (T := TX3) (N := 5) (by have := zRoom_lt ha; omega) (zsh_room ha _ _ _ _) rfl zin_X3 (by decide) hl rfl d kk
theorem zp_X3_0 (hx : zOk E x cc own nL R) {a : Nat} (ha : zRoom a) {index : Nat} {v : Int32} (hl : Cond.fieldLink own index "BalanceRoom$Room" "weights" "I" ∈ zU) (d : decode cc pc = .ok (.putfield index, 3)) (kk : zJ E x (pc + 3) lv st (zputI M a 0 v)) : zJ E x pc lv (.int v :: .ref (E.2.2.2 a) :: st) M := z_put hx (c := a) (ci := 3) (k := 0) (C := RX3) (T := TX3) (N := 5) (ty := .int) (v := .int v) (g := upd (M.1 a) 0 v) (h := M.2 a) (by have := zRoom_lt ha; omega) (zsh_room ha _ _ _ _) (zsh_room ha _ _ _ _) rfl zin_X3 tyX3_ok nmX3 (by decide) hl rfl (by decide +kernel) rfl rfl (Nat.le_of_ble_eq_true rfl) d (by rw [zup_self]; exact kk)
theorem zg_X3_1 (hx : zOk E x cc own nL R) {a : Nat} (ha : zRoom a) {index : Nat} (hl : Cond.fieldLink own index "BalanceRoom$Room" "masterValue" "I" ∈ zU) (d : decode cc pc = .ok (.getfield index, 3)) (kk : zJ E x (pc + 3) lv (.int (M.1 a 1) :: st) M) : zJ E x pc lv (.ref (E.2.2.2 a) :: st) M := z_get hx (c := a) (ci := 3) (k := 1) (C := RX3) (T := TX3) (N := 5) (by have := zRoom_lt ha; omega) (zsh_room ha _ _ _ _) rfl zin_X3 (by decide) hl rfl d kk
theorem zp_X3_1 (hx : zOk E x cc own nL R) {a : Nat} (ha : zRoom a) {index : Nat} {v : Int32} (hl : Cond.fieldLink own index "BalanceRoom$Room" "masterValue" "I" ∈ zU) (d : decode cc pc = .ok (.putfield index, 3)) (kk : zJ E x (pc + 3) lv st (zputI M a 1 v)) : zJ E x pc lv (.int v :: .ref (E.2.2.2 a) :: st) M := z_put hx (c := a) (ci := 3) (k := 1) (C := RX3) (T := TX3) (N := 5) (ty := .int) (v := .int v) (g := upd (M.1 a) 1 v) (h := M.2 a) (by have := zRoom_lt ha; omega) (zsh_room ha _ _ _ _) (zsh_room ha _ _ _ _) rfl zin_X3 tyX3_ok nmX3 (by decide) hl rfl (by decide +kernel) rfl rfl (Nat.le_of_ble_eq_true rfl) d (by rw [zup_self]; exact kk)
theorem zg_X3_2 (hx : zOk E x cc own nL R) {a : Nat} (ha : zRoom a) {index : Nat} (hl : Cond.fieldLink own index "BalanceRoom$Room" "weighings" "I" ∈ zU) (d : decode cc pc = .ok (.getfield index, 3)) (kk : zJ E x (pc + 3) lv (.int (M.1 a 2) :: st) M) : zJ E x pc lv (.ref (E.2.2.2 a) :: st) M := z_get hx (c := a) (ci := 3) (k := 2) (C := RX3) (T := TX3) (N := 5) (by have := zRoom_lt ha; omega) (zsh_room ha _ _ _ _) rfl zin_X3 (by decide) hl rfl d kk
theorem zp_X3_2 (hx : zOk E x cc own nL R) {a : Nat} (ha : zRoom a) {index : Nat} {v : Int32} (hl : Cond.fieldLink own index "BalanceRoom$Room" "weighings" "I" ∈ zU) (d : decode cc pc = .ok (.putfield index, 3)) (kk : zJ E x (pc + 3) lv st (zputI M a 2 v)) : zJ E x pc lv (.int v :: .ref (E.2.2.2 a) :: st) M := z_put hx (c := a) (ci := 3) (k := 2) (C := RX3) (T := TX3) (N := 5) (ty := .int) (v := .int v) (g := upd (M.1 a) 2 v) (h := M.2 a) (by have := zRoom_lt ha; omega) (zsh_room ha _ _ _ _) (zsh_room ha _ _ _ _) rfl zin_X3 tyX3_ok nmX3 (by decide) hl rfl (by decide +kernel) rfl rfl (Nat.le_of_ble_eq_true rfl) d (by rw [zup_self]; exact kk)
theorem zg_X3_3 (hx : zOk E x cc own nL R) {a : Nat} (ha : zRoom a) {index : Nat} (hl : Cond.fieldLink own index "BalanceRoom$Room" "codes" "[I" ∈ zU) (d : decode cc pc = .ok (.getfield index, 3)) (kk : zJ E x (pc + 3) lv (.ref (E.2.2.2 (a + 1)) :: st) M) : zJ E x pc lv (.ref (E.2.2.2 a) :: st) M := z_get hx (c := a) (ci := 3) (k := 3) (C := RX3) (T := TX3) (N := 5) (by have := zRoom_lt ha; omega) (zsh_room ha _ _ _ _) rfl zin_X3 (by decide) hl rfl d kk
theorem zg_X3_4 (hx : zOk E x cc own nL R) {a : Nat} (ha : zRoom a) {index : Nat} (hl : Cond.fieldLink own index "BalanceRoom$Room" "readings" "[I" ∈ zU) (d : decode cc pc = .ok (.getfield index, 3)) (kk : zJ E x (pc + 3) lv (.ref (E.2.2.2 (a + 2)) :: st) M) : zJ E x pc lv (.ref (E.2.2.2 a) :: st) M := z_get hx (c := a) (ci := 3) (k := 4) (C := RX3) (T := TX3) (N := 5) (by have := zRoom_lt ha; omega) (zsh_room ha _ _ _ _) rfl zin_X3 (by decide) hl rfl d kk
theorem zg_X4_0 (hx : zOk E x cc own nL R) {index : Nat} (hl : Cond.fieldLink own index "BalanceRoom$Text" "letters" "[I" ∈ zU) (d : decode cc pc = .ok (.getfield index, 3)) (kk : zJ E x (pc + 3) lv (.ref (E.2.2.2 2) :: st) M) : zJ E x pc lv (.ref (E.2.2.2 1) :: st) M := z_get hx (c := 1) (ci := 4) (k := 0) (C := RX4) (T := TX4) (N := 2) (by decide) rfl rfl zin_X4 (by decide) hl rfl d kk
theorem zg_X4_1 (hx : zOk E x cc own nL R) {index : Nat} (hl : Cond.fieldLink own index "BalanceRoom$Text" "length" "I" ∈ zU) (d : decode cc pc = .ok (.getfield index, 3)) (kk : zJ E x (pc + 3) lv (.int (M.1 1 1) :: st) M) : zJ E x pc lv (.ref (E.2.2.2 1) :: st) M := z_get hx (c := 1) (ci := 4) (k := 1) (C := RX4) (T := TX4) (N := 2) (by decide) rfl rfl zin_X4 (by decide) hl rfl d kk
theorem zp_X4_1 (hx : zOk E x cc own nL R) {index : Nat} {v : Int32} (hl : Cond.fieldLink own index "BalanceRoom$Text" "length" "I" ∈ zU) (d : decode cc pc = .ok (.putfield index, 3)) (kk : zJ E x (pc + 3) lv st (zputI M 1 1 v)) : zJ E x pc lv (.int v :: .ref (E.2.2.2 1) :: st) M := z_put hx (c := 1) (ci := 4) (k := 1) (C := RX4) (T := TX4) (N := 2) (ty := .int) (v := .int v) (g := upd (M.1 1) 1 v) (h := M.2 1) (by decide) rfl rfl rfl zin_X4 tyX4_ok nmX4 (by decide) hl rfl (by decide +kernel) rfl rfl (Nat.le_of_ble_eq_true rfl) d (by rw [zup_self]; exact kk)
theorem zg_X5_0 (hx : zOk E x cc own nL R) {index : Nat} (hl : Cond.fieldLink own index "BalanceRoom" "text" "LBalanceRoom$Text;" ∈ zU) (d : decode cc pc = .ok (.getfield index, 3)) (kk : zJ E x (pc + 3) lv (.ref (E.2.2.2 1) :: st) M) : zJ E x pc lv (.ref (E.2.2.2 0) :: st) M := z_get hx (c := 0) (ci := 5) (k := 0) (C := RX5) (T := TX5) (N := 9) (by decide) rfl rfl zin_X5 (by decide) hl rfl d kk
theorem zg_X5_1 (hx : zOk E x cc own nL R) {index : Nat} (hl : Cond.fieldLink own index "BalanceRoom" "here" "LBalanceRoom$Room;" ∈ zU) (d : decode cc pc = .ok (.getfield index, 3)) (kk : zJ E x (pc + 3) lv (.ref (E.2.2.2 46) :: st) M) : zJ E x pc lv (.ref (E.2.2.2 0) :: st) M := z_get hx (c := 0) (ci := 5) (k := 1) (C := RX5) (T := TX5) (N := 9) (by decide) rfl rfl zin_X5 (by decide) hl rfl d kk
theorem zg_X5_2 (hx : zOk E x cc own nL R) {index : Nat} (hl : Cond.fieldLink own index "BalanceRoom" "trial" "LBalanceRoom$Room;" ∈ zU) (d : decode cc pc = .ok (.getfield index, 3)) (kk : zJ E x (pc + 3) lv (.ref (E.2.2.2 49) :: st) M) : zJ E x pc lv (.ref (E.2.2.2 0) :: st) M := z_get hx (c := 0) (ci := 5) (k := 2) (C := RX5) (T := TX5) (N := 9) (by decide) rfl rfl zin_X5 (by decide) hl rfl d kk
theorem zg_X5_3 (hx : zOk E x cc own nL R) {index : Nat} (hl : Cond.fieldLink own index "BalanceRoom" "acts" "LBalanceRoom$Acts;" ∈ zU) (d : decode cc pc = .ok (.getfield index, 3)) (kk : zJ E x (pc + 3) lv (.ref (E.2.2.2 4) :: st) M) : zJ E x pc lv (.ref (E.2.2.2 0) :: st) M := z_get hx (c := 0) (ci := 5) (k := 3) (C := RX5) (T := TX5) (N := 9) (by decide) rfl rfl zin_X5 (by decide) hl rfl d kk
theorem zg_X5_4 (hx : zOk E x cc own nL R) {index : Nat} (hl : Cond.fieldLink own index "BalanceRoom" "slots" "[LBalanceRoom$Room;" ∈ zU) (d : decode cc pc = .ok (.getfield index, 3)) (kk : zJ E x (pc + 3) lv (.ref (E.2.2.2 6) :: st) M) : zJ E x pc lv (.ref (E.2.2.2 0) :: st) M := z_get hx (c := 0) (ci := 5) (k := 4) (C := RX5) (T := TX5) (N := 9) (by decide) rfl rfl zin_X5 (by decide) hl rfl d kk
theorem zg_X5_5 (hx : zOk E x cc own nL R) {index : Nat} (hl : Cond.fieldLink own index "BalanceRoom" "filled" "[Z" ∈ zU) (d : decode cc pc = .ok (.getfield index, 3)) (kk : zJ E x (pc + 3) lv (.ref (E.2.2.2 3) :: st) M) : zJ E x pc lv (.ref (E.2.2.2 0) :: st) M := z_get hx (c := 0) (ci := 5) (k := 5) (C := RX5) (T := TX5) (N := 9) (by decide) rfl rfl zin_X5 (by decide) hl rfl d kk
theorem zg_X5_6 (hx : zOk E x cc own nL R) {index : Nat} (hl : Cond.fieldLink own index "BalanceRoom" "fit" "LBalanceRoom$Fit;" ∈ zU) (d : decode cc pc = .ok (.getfield index, 3)) (kk : zJ E x (pc + 3) lv (.ref (E.2.2.2 7) :: st) M) : zJ E x pc lv (.ref (E.2.2.2 0) :: st) M := z_get hx (c := 0) (ci := 5) (k := 6) (C := RX5) (T := TX5) (N := 9) (by decide) rfl rfl zin_X5 (by decide) hl rfl d kk
theorem zg_X5_7 (hx : zOk E x cc own nL R) {index : Nat} (hl : Cond.fieldLink own index "BalanceRoom" "ranks" "LBalanceRoom$Ranks;" ∈ zU) (d : decode cc pc = .ok (.getfield index, 3)) (kk : zJ E x (pc + 3) lv (.ref (E.2.2.2 11) :: st) M) : zJ E x pc lv (.ref (E.2.2.2 0) :: st) M := z_get hx (c := 0) (ci := 5) (k := 7) (C := RX5) (T := TX5) (N := 9) (by decide) rfl rfl zin_X5 (by decide) hl rfl d kk
theorem zg_X5_8 (hx : zOk E x cc own nL R) {index : Nat} (hl : Cond.fieldLink own index "BalanceRoom" "seedNow" "J" ∈ zU) (d : decode cc pc = .ok (.getfield index, 3)) (kk : zJ E x (pc + 3) lv (.long (M.2 0 8) :: st) M) : zJ E x pc lv (.ref (E.2.2.2 0) :: st) M := z_get hx (c := 0) (ci := 5) (k := 8) (C := RX5) (T := TX5) (N := 9) (by decide) rfl rfl zin_X5 (by decide) hl rfl d kk
theorem zp_X5_8 (hx : zOk E x cc own nL R) {index : Nat} {v : Int64} (hl : Cond.fieldLink own index "BalanceRoom" "seedNow" "J" ∈ zU) (d : decode cc pc = .ok (.putfield index, 3)) (kk : zJ E x (pc + 3) lv st (zputJ M 0 8 v)) : zJ E x pc lv (.long v :: .ref (E.2.2.2 0) :: st) M := z_put hx (c := 0) (ci := 5) (k := 8) (C := RX5) (T := TX5) (N := 9) (ty := .long) (v := .long v) (g := M.1 0) (h := vp_updL (M.2 0) 8 v) (by decide) rfl rfl rfl zin_X5 tyX5_ok nmX5 (by decide) hl rfl (by decide +kernel) rfl rfl (Nat.le_of_ble_eq_true rfl) d (by rw [zup_self]; exact kk)
theorem zg_X6_0 (hx : zOk E x cc own nL R) {index : Nat} (hl : Cond.fieldLink own index "BalanceRoomModel" "thrown" "I" ∈ zU) (d : decode cc pc = .ok (.getfield index, 3)) (kk : zJ E x (pc + 3) lv (.int (M.1 32 0) :: st) M) : zJ E x pc lv (.ref (E.2.2.2 32) :: st) M := z_get hx (c := 32) (ci := 6) (k := 0) (C := RX6) (T := TX6) (N := 24) (by decide) rfl rfl zin_X6 (by decide) hl rfl d kk
theorem zp_X6_0 (hx : zOk E x cc own nL R) {index : Nat} {v : Int32} (hl : Cond.fieldLink own index "BalanceRoomModel" "thrown" "I" ∈ zU) (d : decode cc pc = .ok (.putfield index, 3)) (kk : zJ E x (pc + 3) lv st (zputI M 32 0 v)) : zJ E x pc lv (.int v :: .ref (E.2.2.2 32) :: st) M := z_put hx (c := 32) (ci := 6) (k := 0) (C := RX6) (T := TX6) (N := 24) (ty := .int) (v := .int v) (g := upd (M.1 32) 0 v) (h := M.2 32) (by decide) rfl rfl rfl zin_X6 tyX6_ok nmX6 (by decide) hl rfl (by decide +kernel) rfl rfl (Nat.le_of_ble_eq_true rfl) d (by rw [zup_self]; exact kk)
theorem zg_X6_1 (hx : zOk E x cc own nL R) {index : Nat} (hl : Cond.fieldLink own index "BalanceRoomModel" "text" "[I" ∈ zU) (d : decode cc pc = .ok (.getfield index, 3)) (kk : zJ E x (pc + 3) lv (.ref (E.2.2.2 33) :: st) M) : zJ E x pc lv (.ref (E.2.2.2 32) :: st) M := z_get hx (c := 32) (ci := 6) (k := 1) (C := RX6) (T := TX6) (N := 24) (by decide) rfl rfl zin_X6 (by decide) hl rfl d kk
theorem zg_X6_2 (hx : zOk E x cc own nL R) {index : Nat} (hl : Cond.fieldLink own index "BalanceRoomModel" "textSize" "I" ∈ zU) (d : decode cc pc = .ok (.getfield index, 3)) (kk : zJ E x (pc + 3) lv (.int (M.1 32 2) :: st) M) : zJ E x pc lv (.ref (E.2.2.2 32) :: st) M := z_get hx (c := 32) (ci := 6) (k := 2) (C := RX6) (T := TX6) (N := 24) (by decide) rfl rfl zin_X6 (by decide) hl rfl d kk
theorem zp_X6_2 (hx : zOk E x cc own nL R) {index : Nat} {v : Int32} (hl : Cond.fieldLink own index "BalanceRoomModel" "textSize" "I" ∈ zU) (d : decode cc pc = .ok (.putfield index, 3)) (kk : zJ E x (pc + 3) lv st (zputI M 32 2 v)) : zJ E x pc lv (.int v :: .ref (E.2.2.2 32) :: st) M := z_put hx (c := 32) (ci := 6) (k := 2) (C := RX6) (T := TX6) (N := 24) (ty := .int) (v := .int v) (g := upd (M.1 32) 2 v) (h := M.2 32) (by decide) rfl rfl rfl zin_X6 tyX6_ok nmX6 (by decide) hl rfl (by decide +kernel) rfl rfl (Nat.le_of_ble_eq_true rfl) d (by rw [zup_self]; exact kk)
theorem zg_X6_3 (hx : zOk E x cc own nL R) {index : Nat} (hl : Cond.fieldLink own index "BalanceRoomModel" "place" "I" ∈ zU) (d : decode cc pc = .ok (.getfield index, 3)) (kk : zJ E x (pc + 3) lv (.int (M.1 32 3) :: st) M) : zJ E x pc lv (.ref (E.2.2.2 32) :: st) M := z_get hx (c := 32) (ci := 6) (k := 3) (C := RX6) (T := TX6) (N := 24) (by decide) rfl rfl zin_X6 (by decide) hl rfl d kk
theorem zp_X6_3 (hx : zOk E x cc own nL R) {index : Nat} {v : Int32} (hl : Cond.fieldLink own index "BalanceRoomModel" "place" "I" ∈ zU) (d : decode cc pc = .ok (.putfield index, 3)) (kk : zJ E x (pc + 3) lv st (zputI M 32 3 v)) : zJ E x pc lv (.int v :: .ref (E.2.2.2 32) :: st) M := z_put hx (c := 32) (ci := 6) (k := 3) (C := RX6) (T := TX6) (N := 24) (ty := .int) (v := .int v) (g := upd (M.1 32) 3 v) (h := M.2 32) (by decide) rfl rfl rfl zin_X6 tyX6_ok nmX6 (by decide) hl rfl (by decide +kernel) rfl rfl (Nat.le_of_ble_eq_true rfl) d (by rw [zup_self]; exact kk)
theorem zg_X6_4 (hx : zOk E x cc own nL R) {index : Nat} (hl : Cond.fieldLink own index "BalanceRoomModel" "weights" "I" ∈ zU) (d : decode cc pc = .ok (.getfield index, 3)) (kk : zJ E x (pc + 3) lv (.int (M.1 32 4) :: st) M) : zJ E x pc lv (.ref (E.2.2.2 32) :: st) M := z_get hx (c := 32) (ci := 6) (k := 4) (C := RX6) (T := TX6) (N := 24) (by decide) rfl rfl zin_X6 (by decide) hl rfl d kk
theorem zp_X6_4 (hx : zOk E x cc own nL R) {index : Nat} {v : Int32} (hl : Cond.fieldLink own index "BalanceRoomModel" "weights" "I" ∈ zU) (d : decode cc pc = .ok (.putfield index, 3)) (kk : zJ E x (pc + 3) lv st (zputI M 32 4 v)) : zJ E x pc lv (.int v :: .ref (E.2.2.2 32) :: st) M := z_put hx (c := 32) (ci := 6) (k := 4) (C := RX6) (T := TX6) (N := 24) (ty := .int) (v := .int v) (g := upd (M.1 32) 4 v) (h := M.2 32) (by decide) rfl rfl rfl zin_X6 tyX6_ok nmX6 (by decide) hl rfl (by decide +kernel) rfl rfl (Nat.le_of_ble_eq_true rfl) d (by rw [zup_self]; exact kk)
theorem zg_X6_5 (hx : zOk E x cc own nL R) {index : Nat} (hl : Cond.fieldLink own index "BalanceRoomModel" "readWeights" "I" ∈ zU) (d : decode cc pc = .ok (.getfield index, 3)) (kk : zJ E x (pc + 3) lv (.int (M.1 32 5) :: st) M) : zJ E x pc lv (.ref (E.2.2.2 32) :: st) M := z_get hx (c := 32) (ci := 6) (k := 5) (C := RX6) (T := TX6) (N := 24) (by decide) rfl rfl zin_X6 (by decide) hl rfl d kk
theorem zp_X6_5 (hx : zOk E x cc own nL R) {index : Nat} {v : Int32} (hl : Cond.fieldLink own index "BalanceRoomModel" "readWeights" "I" ∈ zU) (d : decode cc pc = .ok (.putfield index, 3)) (kk : zJ E x (pc + 3) lv st (zputI M 32 5 v)) : zJ E x pc lv (.int v :: .ref (E.2.2.2 32) :: st) M := z_put hx (c := 32) (ci := 6) (k := 5) (C := RX6) (T := TX6) (N := 24) (ty := .int) (v := .int v) (g := upd (M.1 32) 5 v) (h := M.2 32) (by decide) rfl rfl rfl zin_X6 tyX6_ok nmX6 (by decide) hl rfl (by decide +kernel) rfl rfl (Nat.le_of_ble_eq_true rfl) d (by rw [zup_self]; exact kk)
theorem zg_X6_6 (hx : zOk E x cc own nL R) {index : Nat} (hl : Cond.fieldLink own index "BalanceRoomModel" "readPage" "[I" ∈ zU) (d : decode cc pc = .ok (.getfield index, 3)) (kk : zJ E x (pc + 3) lv (.ref (E.2.2.2 34) :: st) M) : zJ E x pc lv (.ref (E.2.2.2 32) :: st) M := z_get hx (c := 32) (ci := 6) (k := 6) (C := RX6) (T := TX6) (N := 24) (by decide) rfl rfl zin_X6 (by decide) hl rfl d kk
theorem zg_X6_7 (hx : zOk E x cc own nL R) {index : Nat} (hl : Cond.fieldLink own index "BalanceRoomModel" "page" "[I" ∈ zU) (d : decode cc pc = .ok (.getfield index, 3)) (kk : zJ E x (pc + 3) lv (.ref (E.2.2.2 35) :: st) M) : zJ E x pc lv (.ref (E.2.2.2 32) :: st) M := z_get hx (c := 32) (ci := 6) (k := 7) (C := RX6) (T := TX6) (N := 24) (by decide) rfl rfl zin_X6 (by decide) hl rfl d kk
theorem zg_X6_8 (hx : zOk E x cc own nL R) {index : Nat} (hl : Cond.fieldLink own index "BalanceRoomModel" "trial" "[I" ∈ zU) (d : decode cc pc = .ok (.getfield index, 3)) (kk : zJ E x (pc + 3) lv (.ref (E.2.2.2 36) :: st) M) : zJ E x pc lv (.ref (E.2.2.2 32) :: st) M := z_get hx (c := 32) (ci := 6) (k := 8) (C := RX6) (T := TX6) (N := 24) (by decide) rfl rfl zin_X6 (by decide) hl rfl d kk
theorem zg_X6_9 (hx : zOk E x cc own nL R) {index : Nat} (hl : Cond.fieldLink own index "BalanceRoomModel" "other" "[I" ∈ zU) (d : decode cc pc = .ok (.getfield index, 3)) (kk : zJ E x (pc + 3) lv (.ref (E.2.2.2 37) :: st) M) : zJ E x pc lv (.ref (E.2.2.2 32) :: st) M := z_get hx (c := 32) (ci := 6) (k := 9) (C := RX6) (T := TX6) (N := 24) (by decide) rfl rfl zin_X6 (by decide) hl rfl d kk
theorem zg_X6_10 (hx : zOk E x cc own nL R) {index : Nat} (hl : Cond.fieldLink own index "BalanceRoomModel" "book" "[I" ∈ zU) (d : decode cc pc = .ok (.getfield index, 3)) (kk : zJ E x (pc + 3) lv (.ref (E.2.2.2 38) :: st) M) : zJ E x pc lv (.ref (E.2.2.2 32) :: st) M := z_get hx (c := 32) (ci := 6) (k := 10) (C := RX6) (T := TX6) (N := 24) (by decide) rfl rfl zin_X6 (by decide) hl rfl d kk
theorem zg_X6_11 (hx : zOk E x cc own nL R) {index : Nat} (hl : Cond.fieldLink own index "BalanceRoomModel" "doings" "I" ∈ zU) (d : decode cc pc = .ok (.getfield index, 3)) (kk : zJ E x (pc + 3) lv (.int (M.1 32 11) :: st) M) : zJ E x pc lv (.ref (E.2.2.2 32) :: st) M := z_get hx (c := 32) (ci := 6) (k := 11) (C := RX6) (T := TX6) (N := 24) (by decide) rfl rfl zin_X6 (by decide) hl rfl d kk
theorem zp_X6_11 (hx : zOk E x cc own nL R) {index : Nat} {v : Int32} (hl : Cond.fieldLink own index "BalanceRoomModel" "doings" "I" ∈ zU) (d : decode cc pc = .ok (.putfield index, 3)) (kk : zJ E x (pc + 3) lv st (zputI M 32 11 v)) : zJ E x pc lv (.int v :: .ref (E.2.2.2 32) :: st) M := z_put hx (c := 32) (ci := 6) (k := 11) (C := RX6) (T := TX6) (N := 24) (ty := .int) (v := .int v) (g := upd (M.1 32) 11 v) (h := M.2 32) (by decide) rfl rfl rfl zin_X6 tyX6_ok nmX6 (by decide) hl rfl (by decide +kernel) rfl rfl (Nat.le_of_ble_eq_true rfl) d (by rw [zup_self]; exact kk)
theorem zg_X6_12 (hx : zOk E x cc own nL R) {index : Nat} (hl : Cond.fieldLink own index "BalanceRoomModel" "kept" "[I" ∈ zU) (d : decode cc pc = .ok (.getfield index, 3)) (kk : zJ E x (pc + 3) lv (.ref (E.2.2.2 39) :: st) M) : zJ E x pc lv (.ref (E.2.2.2 32) :: st) M := z_get hx (c := 32) (ci := 6) (k := 12) (C := RX6) (T := TX6) (N := 24) (by decide) rfl rfl zin_X6 (by decide) hl rfl d kk
theorem zg_X6_13 (hx : zOk E x cc own nL R) {index : Nat} (hl : Cond.fieldLink own index "BalanceRoomModel" "isKept" "[Z" ∈ zU) (d : decode cc pc = .ok (.getfield index, 3)) (kk : zJ E x (pc + 3) lv (.ref (E.2.2.2 40) :: st) M) : zJ E x pc lv (.ref (E.2.2.2 32) :: st) M := z_get hx (c := 32) (ci := 6) (k := 13) (C := RX6) (T := TX6) (N := 24) (by decide) rfl rfl zin_X6 (by decide) hl rfl d kk
theorem zg_X6_14 (hx : zOk E x cc own nL R) {index : Nat} (hl : Cond.fieldLink own index "BalanceRoomModel" "seed" "J" ∈ zU) (d : decode cc pc = .ok (.getfield index, 3)) (kk : zJ E x (pc + 3) lv (.long (M.2 32 14) :: st) M) : zJ E x pc lv (.ref (E.2.2.2 32) :: st) M := z_get hx (c := 32) (ci := 6) (k := 14) (C := RX6) (T := TX6) (N := 24) (by decide) rfl rfl zin_X6 (by decide) hl rfl d kk
theorem zp_X6_14 (hx : zOk E x cc own nL R) {index : Nat} {v : Int64} (hl : Cond.fieldLink own index "BalanceRoomModel" "seed" "J" ∈ zU) (d : decode cc pc = .ok (.putfield index, 3)) (kk : zJ E x (pc + 3) lv st (zputJ M 32 14 v)) : zJ E x pc lv (.long v :: .ref (E.2.2.2 32) :: st) M := z_put hx (c := 32) (ci := 6) (k := 14) (C := RX6) (T := TX6) (N := 24) (ty := .long) (v := .long v) (g := M.1 32) (h := vp_updL (M.2 32) 14 v) (by decide) rfl rfl rfl zin_X6 tyX6_ok nmX6 (by decide) hl rfl (by decide +kernel) rfl rfl (Nat.le_of_ble_eq_true rfl) d (by rw [zup_self]; exact kk)
theorem zg_X6_15 (hx : zOk E x cc own nL R) {index : Nat} (hl : Cond.fieldLink own index "BalanceRoomModel" "wide" "I" ∈ zU) (d : decode cc pc = .ok (.getfield index, 3)) (kk : zJ E x (pc + 3) lv (.int (M.1 32 15) :: st) M) : zJ E x pc lv (.ref (E.2.2.2 32) :: st) M := z_get hx (c := 32) (ci := 6) (k := 15) (C := RX6) (T := TX6) (N := 24) (by decide) rfl rfl zin_X6 (by decide) hl rfl d kk
theorem zp_X6_15 (hx : zOk E x cc own nL R) {index : Nat} {v : Int32} (hl : Cond.fieldLink own index "BalanceRoomModel" "wide" "I" ∈ zU) (d : decode cc pc = .ok (.putfield index, 3)) (kk : zJ E x (pc + 3) lv st (zputI M 32 15 v)) : zJ E x pc lv (.int v :: .ref (E.2.2.2 32) :: st) M := z_put hx (c := 32) (ci := 6) (k := 15) (C := RX6) (T := TX6) (N := 24) (ty := .int) (v := .int v) (g := upd (M.1 32) 15 v) (h := M.2 32) (by decide) rfl rfl rfl zin_X6 tyX6_ok nmX6 (by decide) hl rfl (by decide +kernel) rfl rfl (Nat.le_of_ble_eq_true rfl) d (by rw [zup_self]; exact kk)
theorem zg_X6_16 (hx : zOk E x cc own nL R) {index : Nat} (hl : Cond.fieldLink own index "BalanceRoomModel" "gram" "[J" ∈ zU) (d : decode cc pc = .ok (.getfield index, 3)) (kk : zJ E x (pc + 3) lv (.ref (E.2.2.2 41) :: st) M) : zJ E x pc lv (.ref (E.2.2.2 32) :: st) M := z_get hx (c := 32) (ci := 6) (k := 16) (C := RX6) (T := TX6) (N := 24) (by decide) rfl rfl zin_X6 (by decide) hl rfl d kk
theorem zg_X6_17 (hx : zOk E x cc own nL R) {index : Nat} (hl : Cond.fieldLink own index "BalanceRoomModel" "right" "[J" ∈ zU) (d : decode cc pc = .ok (.getfield index, 3)) (kk : zJ E x (pc + 3) lv (.ref (E.2.2.2 42) :: st) M) : zJ E x pc lv (.ref (E.2.2.2 32) :: st) M := z_get hx (c := 32) (ci := 6) (k := 17) (C := RX6) (T := TX6) (N := 24) (by decide) rfl rfl zin_X6 (by decide) hl rfl d kk
theorem zg_X6_18 (hx : zOk E x cc own nL R) {index : Nat} (hl : Cond.fieldLink own index "BalanceRoomModel" "squaresOfAll" "J" ∈ zU) (d : decode cc pc = .ok (.getfield index, 3)) (kk : zJ E x (pc + 3) lv (.long (M.2 32 18) :: st) M) : zJ E x pc lv (.ref (E.2.2.2 32) :: st) M := z_get hx (c := 32) (ci := 6) (k := 18) (C := RX6) (T := TX6) (N := 24) (by decide) rfl rfl zin_X6 (by decide) hl rfl d kk
theorem zp_X6_18 (hx : zOk E x cc own nL R) {index : Nat} {v : Int64} (hl : Cond.fieldLink own index "BalanceRoomModel" "squaresOfAll" "J" ∈ zU) (d : decode cc pc = .ok (.putfield index, 3)) (kk : zJ E x (pc + 3) lv st (zputJ M 32 18 v)) : zJ E x pc lv (.long v :: .ref (E.2.2.2 32) :: st) M := z_put hx (c := 32) (ci := 6) (k := 18) (C := RX6) (T := TX6) (N := 24) (ty := .long) (v := .long v) (g := M.1 32) (h := vp_updL (M.2 32) 18 v) (by decide) rfl rfl rfl zin_X6 tyX6_ok nmX6 (by decide) hl rfl (by decide +kernel) rfl rfl (Nat.le_of_ble_eq_true rfl) d (by rw [zup_self]; exact kk)
theorem zg_X6_19 (hx : zOk E x cc own nL R) {index : Nat} (hl : Cond.fieldLink own index "BalanceRoomModel" "work" "[J" ∈ zU) (d : decode cc pc = .ok (.getfield index, 3)) (kk : zJ E x (pc + 3) lv (.ref (E.2.2.2 43) :: st) M) : zJ E x pc lv (.ref (E.2.2.2 32) :: st) M := z_get hx (c := 32) (ci := 6) (k := 19) (C := RX6) (T := TX6) (N := 24) (by decide) rfl rfl zin_X6 (by decide) hl rfl d kk
theorem zg_X6_20 (hx : zOk E x cc own nL R) {index : Nat} (hl : Cond.fieldLink own index "BalanceRoomModel" "chosen" "[I" ∈ zU) (d : decode cc pc = .ok (.getfield index, 3)) (kk : zJ E x (pc + 3) lv (.ref (E.2.2.2 44) :: st) M) : zJ E x pc lv (.ref (E.2.2.2 32) :: st) M := z_get hx (c := 32) (ci := 6) (k := 20) (C := RX6) (T := TX6) (N := 24) (by decide) rfl rfl zin_X6 (by decide) hl rfl d kk
theorem zg_X6_21 (hx : zOk E x cc own nL R) {index : Nat} (hl : Cond.fieldLink own index "BalanceRoomModel" "column" "[I" ∈ zU) (d : decode cc pc = .ok (.getfield index, 3)) (kk : zJ E x (pc + 3) lv (.ref (E.2.2.2 45) :: st) M) : zJ E x pc lv (.ref (E.2.2.2 32) :: st) M := z_get hx (c := 32) (ci := 6) (k := 21) (C := RX6) (T := TX6) (N := 24) (by decide) rfl rfl zin_X6 (by decide) hl rfl d kk
theorem zg_X6_22 (hx : zOk E x cc own nL R) {index : Nat} (hl : Cond.fieldLink own index "BalanceRoomModel" "up" "J" ∈ zU) (d : decode cc pc = .ok (.getfield index, 3)) (kk : zJ E x (pc + 3) lv (.long (M.2 32 22) :: st) M) : zJ E x pc lv (.ref (E.2.2.2 32) :: st) M := z_get hx (c := 32) (ci := 6) (k := 22) (C := RX6) (T := TX6) (N := 24) (by decide) rfl rfl zin_X6 (by decide) hl rfl d kk
theorem zp_X6_22 (hx : zOk E x cc own nL R) {index : Nat} {v : Int64} (hl : Cond.fieldLink own index "BalanceRoomModel" "up" "J" ∈ zU) (d : decode cc pc = .ok (.putfield index, 3)) (kk : zJ E x (pc + 3) lv st (zputJ M 32 22 v)) : zJ E x pc lv (.long v :: .ref (E.2.2.2 32) :: st) M := z_put hx (c := 32) (ci := 6) (k := 22) (C := RX6) (T := TX6) (N := 24) (ty := .long) (v := .long v) (g := M.1 32) (h := vp_updL (M.2 32) 22 v) (by decide) rfl rfl rfl zin_X6 tyX6_ok nmX6 (by decide) hl rfl (by decide +kernel) rfl rfl (Nat.le_of_ble_eq_true rfl) d (by rw [zup_self]; exact kk)
theorem zg_X6_23 (hx : zOk E x cc own nL R) {index : Nat} (hl : Cond.fieldLink own index "BalanceRoomModel" "low" "J" ∈ zU) (d : decode cc pc = .ok (.getfield index, 3)) (kk : zJ E x (pc + 3) lv (.long (M.2 32 23) :: st) M) : zJ E x pc lv (.ref (E.2.2.2 32) :: st) M := z_get hx (c := 32) (ci := 6) (k := 23) (C := RX6) (T := TX6) (N := 24) (by decide) rfl rfl zin_X6 (by decide) hl rfl d kk
theorem zp_X6_23 (hx : zOk E x cc own nL R) {index : Nat} {v : Int64} (hl : Cond.fieldLink own index "BalanceRoomModel" "low" "J" ∈ zU) (d : decode cc pc = .ok (.putfield index, 3)) (kk : zJ E x (pc + 3) lv st (zputJ M 32 23 v)) : zJ E x pc lv (.long v :: .ref (E.2.2.2 32) :: st) M := z_put hx (c := 32) (ci := 6) (k := 23) (C := RX6) (T := TX6) (N := 24) (ty := .long) (v := .long v) (g := M.1 32) (h := vp_updL (M.2 32) 23 v) (by decide) rfl rfl rfl zin_X6 tyX6_ok nmX6 (by decide) hl rfl (by decide +kernel) rfl rfl (Nat.le_of_ble_eq_true rfl) d (by rw [zup_self]; exact kk)
end ZF
theorem zy_X0_remember : zYV yX0_remember cX0_remember 2 none 1 := ⟨zw_299, zw_300, zw_42, zw_301, ⟨by decide, by decide⟩, by decide +kernel⟩
theorem zy_X0_takeBack : zYV yX0_takeBack cX0_takeBack 2 none 1 := ⟨zw_342, zw_343, zw_42, zw_344, ⟨by decide, by decide⟩, by decide +kernel⟩
theorem zy_X0_forgetAll : zYV yX0_forgetAll cX0_forgetAll 1 none 0 := ⟨zw_273, zw_274, zw_42, zw_275, ⟨by decide, by decide⟩, by decide +kernel⟩
theorem zy_X1_solves : zYV yX1_solves cX1_solves 3 (some .boolean) 2 := ⟨zw_382, zw_383, zw_43, zw_384, ⟨by decide, by decide⟩, by decide +kernel⟩
theorem zy_X1_solvesWith : zYV yX1_solvesWith cX1_solvesWith 4 (some .boolean) 2 := ⟨zw_469, zw_470, zw_43, zw_471, ⟨by decide, by decide⟩, by decide +kernel⟩
theorem zy_X1_solvesWithout : zYV yX1_solvesWithout cX1_solvesWithout 4 (some .boolean) 2 := ⟨zw_489, zw_8, zw_43, zw_490, ⟨by decide, by decide⟩, by decide +kernel⟩
theorem zy_X1_gather : zYV yX1_gather cX1_gather 5 none 2 := ⟨zw_386, zw_387, zw_43, zw_388, ⟨by decide, by decide⟩, by decide +kernel⟩
theorem zy_X1_put : zYV yX1_put cX1_put 8 none 3 := ⟨zw_392, zw_4, zw_43, zw_393, ⟨by decide, by decide⟩, by decide +kernel⟩
theorem zy_X1_sweepAll : zYV yX1_sweepAll cX1_sweepAll 3 (some .boolean) 1 := ⟨zw_397, zw_5, zw_43, zw_398, ⟨by decide, by decide⟩, by decide +kernel⟩
theorem zy_X1_sweep : zYV yX1_sweep cX1_sweep 6 none 2 := ⟨zw_402, zw_6, zw_43, zw_403, ⟨by decide, by decide⟩, by decide +kernel⟩
theorem zy_X1_sweepRow : zYV yX1_sweepRow cX1_sweepRow 10 none 3 := ⟨zw_406, zw_7, zw_43, zw_407, ⟨by decide, by decide⟩, by decide +kernel⟩
theorem zy_X1_valueAbove : zYV yX1_valueAbove cX1_valueAbove 2 (some .long) 1 := ⟨zw_410, zw_411, zw_43, zw_412, ⟨by decide, by decide⟩, by decide +kernel⟩
theorem zy_X1_spreadAbove : zYV yX1_spreadAbove cX1_spreadAbove 2 (some .long) 1 := ⟨zw_427, zw_428, zw_43, zw_429, ⟨by decide, by decide⟩, by decide +kernel⟩
theorem zy_X1_totalAbove : zYV yX1_totalAbove cX1_totalAbove 4 (some .long) 0 := ⟨zw_435, zw_436, zw_43, zw_437, ⟨by decide, by decide⟩, by decide +kernel⟩
theorem zy_X1_restAbove : zYV yX1_restAbove cX1_restAbove 6 (some .long) 2 := ⟨zw_444, zw_445, zw_43, zw_446, ⟨by decide, by decide⟩, by decide +kernel⟩
theorem zy_X1_squaresAbove : zYV yX1_squaresAbove cX1_squaresAbove 1 (some .long) 0 := ⟨zw_453, zw_454, zw_43, zw_455, ⟨by decide, by decide⟩, by decide +kernel⟩
theorem zy_X1_mostDoubtful : zYV yX1_mostDoubtful cX1_mostDoubtful 9 (some .int) 2 := ⟨zw_484, zw_485, zw_43, zw_486, ⟨by decide, by decide⟩, by decide +kernel⟩
theorem zy_X1_thoseAlone : zYV yX1_thoseAlone cX1_thoseAlone 5 (some .int) 2 := ⟨zw_498, zw_499, zw_43, zw_500, ⟨by decide, by decide⟩, by decide +kernel⟩
theorem zy_X2_ofAll : zYV yX2_ofAll cX2_ofAll 5 (some .int) 2 := ⟨zw_350, zw_351, zw_44, zw_352, ⟨by decide, by decide⟩, by decide +kernel⟩
theorem zy_X2_ofEach : zYV yX2_ofEach cX2_ofEach 6 none 2 := ⟨zw_527, zw_528, zw_44, zw_529, ⟨by decide, by decide⟩, by decide +kernel⟩
theorem zy_X2_extended : zYV yX2_extended cX2_extended 8 (some .int) 4 := ⟨zw_355, zw_3, zw_44, zw_356, ⟨by decide, by decide⟩, by decide +kernel⟩
theorem zy_X2_reduce : zYS yX2_reduce cX2_reduce 9 none 4 := ⟨zw_370, zw_44, zw_371, ⟨by decide, by decide⟩, by decide +kernel⟩
theorem zy_X3_copy : zYV yX3_copy cX3_copy 2 none 1 := ⟨zw_303, zw_304, zw_41, zw_305, ⟨by decide, by decide⟩, by decide +kernel⟩
theorem zy_X3_takeFrom : zYV yX3_takeFrom cX3_takeFrom 3 none 1 := ⟨zw_241, zw_242, zw_41, zw_243, ⟨by decide, by decide⟩, by decide +kernel⟩
theorem zy_X3_has : zYV yX3_has cX3_has 2 (some .boolean) 1 := ⟨zw_281, zw_282, zw_41, zw_283, ⟨by decide, by decide⟩, by decide +kernel⟩
theorem zy_X3_unknowns : zYV yX3_unknowns cX3_unknowns 2 (some .int) 1 := ⟨zw_358, zw_359, zw_41, zw_360, ⟨by decide, by decide⟩, by decide +kernel⟩
theorem zy_X3_hasUnknown : zYV yX3_hasUnknown cX3_hasUnknown 3 (some .boolean) 2 := ⟨zw_377, zw_378, zw_41, zw_379, ⟨by decide, by decide⟩, by decide +kernel⟩
theorem zy_X3_append : zYV yX3_append cX3_append 3 none 2 := ⟨zw_310, zw_311, zw_41, zw_312, ⟨by decide, by decide⟩, by decide +kernel⟩
theorem zy_X3_remove : zYV yX3_remove cX3_remove 3 none 1 := ⟨zw_318, zw_319, zw_41, zw_320, ⟨by decide, by decide⟩, by decide +kernel⟩
theorem zy_X3_exchange : zYV yX3_exchange cX3_exchange 5 none 2 := ⟨zw_326, zw_327, zw_41, zw_328, ⟨by decide, by decide⟩, by decide +kernel⟩
theorem zy_X3_layOut : zYV yX3_layOut cX3_layOut 6 none 3 := ⟨zw_362, zw_363, zw_41, zw_364, ⟨by decide, by decide⟩, by decide +kernel⟩
theorem zy_X3_signOf : zYS yX3_signOf cX3_signOf 1 (some .int) 1 := ⟨zw_366, zw_41, zw_367, ⟨by decide, by decide⟩, by decide +kernel⟩
theorem zy_X4_faultPlace : zYV yX4_faultPlace cX4_faultPlace 2 (some .int) 0 := ⟨zw_215, zw_216, zw_40, zw_217, ⟨by decide, by decide⟩, by decide +kernel⟩
theorem zy_X4_fits : zYV yX4_fits cX4_fits 5 (some .boolean) 1 := ⟨zw_220, zw_0, zw_40, zw_221, ⟨by decide, by decide⟩, by decide +kernel⟩
theorem zy_X4_isFigure : zYS yX4_isFigure cX4_isFigure 1 (some .boolean) 1 := ⟨zw_223, zw_40, zw_224, ⟨by decide, by decide⟩, by decide +kernel⟩
theorem zy_X4_isSign : zYS yX4_isSign cX4_isSign 1 (some .boolean) 1 := ⟨zw_234, zw_40, zw_235, ⟨by decide, by decide⟩, by decide +kernel⟩
theorem zy_X4_weightsTold : zYV yX4_weightsTold cX4_weightsTold 2 (some .int) 0 := ⟨zw_230, zw_231, zw_40, zw_232, ⟨by decide, by decide⟩, by decide +kernel⟩
theorem zy_X4_lettersEach : zYV yX4_lettersEach cX4_lettersEach 1 (some .int) 0 := ⟨zw_226, zw_227, zw_40, zw_228, ⟨by decide, by decide⟩, by decide +kernel⟩
theorem zy_X4_weighingsTold : zYV yX4_weighingsTold cX4_weighingsTold 1 (some .int) 0 := ⟨zw_254, zw_255, zw_40, zw_256, ⟨by decide, by decide⟩, by decide +kernel⟩
theorem zy_X4_masterTold : zYV yX4_masterTold cX4_masterTold 1 (some .int) 0 := ⟨zw_246, zw_247, zw_40, zw_248, ⟨by decide, by decide⟩, by decide +kernel⟩
theorem zy_X4_codeTold : zYV yX4_codeTold cX4_codeTold 6 (some .int) 1 := ⟨zw_261, zw_262, zw_40, zw_263, ⟨by decide, by decide⟩, by decide +kernel⟩
theorem zy_X4_readingTold : zYV yX4_readingTold cX4_readingTold 4 (some .int) 1 := ⟨zw_269, zw_270, zw_40, zw_271, ⟨by decide, by decide⟩, by decide +kernel⟩
theorem zy_X4_startOf : zYV yX4_startOf cX4_startOf 2 (some .int) 1 := ⟨zw_266, zw_2, zw_40, zw_267, ⟨by decide, by decide⟩, by decide +kernel⟩
theorem zy_X4_figureAt : zYV yX4_figureAt cX4_figureAt 2 (some .int) 1 := ⟨zw_251, zw_1, zw_40, zw_252, ⟨by decide, by decide⟩, by decide +kernel⟩
theorem zy_X5_write : zYV yX5_write cX5_write 2 (some .int) 1 := ⟨zw_203, zw_204, zw_39, zw_205, ⟨by decide, by decide⟩, by decide +kernel⟩
theorem zy_X5_wipe : zYV yX5_wipe cX5_wipe 2 (some .int) 0 := ⟨zw_207, zw_208, zw_39, zw_209, ⟨by decide, by decide⟩, by decide +kernel⟩
theorem zy_X5_fault : zYV yX5_fault cX5_fault 1 (some .int) 0 := ⟨zw_211, zw_212, zw_39, zw_213, ⟨by decide, by decide⟩, by decide +kernel⟩
theorem zy_X5_room : zYV yX5_room cX5_room 2 (some .int) 0 := ⟨zw_237, zw_238, zw_39, zw_239, ⟨by decide, by decide⟩, by decide +kernel⟩
theorem zy_X5_code : zYV yX5_code cX5_code 2 (some .int) 1 := ⟨zw_277, zw_278, zw_39, zw_279, ⟨by decide, by decide⟩, by decide +kernel⟩
theorem zy_X5_reading : zYV yX5_reading cX5_reading 2 (some .int) 1 := ⟨zw_285, zw_286, zw_39, zw_287, ⟨by decide, by decide⟩, by decide +kernel⟩
theorem zy_X5_weigh : zYV yX5_weigh cX5_weigh 3 (some .int) 2 := ⟨zw_289, zw_290, zw_39, zw_291, ⟨by decide, by decide⟩, by decide +kernel⟩
theorem zy_X5_take : zYV yX5_take cX5_take 2 (some .int) 1 := ⟨zw_314, zw_315, zw_39, zw_316, ⟨by decide, by decide⟩, by decide +kernel⟩
theorem zy_X5_swap : zYV yX5_swap cX5_swap 3 (some .int) 2 := ⟨zw_322, zw_323, zw_39, zw_324, ⟨by decide, by decide⟩, by decide +kernel⟩
theorem zy_X5_read : zYV yX5_read cX5_read 4 (some .int) 2 := ⟨zw_330, zw_331, zw_39, zw_332, ⟨by decide, by decide⟩, by decide +kernel⟩
theorem zy_X5_master : zYV yX5_master cX5_master 3 (some .int) 1 := ⟨zw_334, zw_335, zw_39, zw_336, ⟨by decide, by decide⟩, by decide +kernel⟩
theorem zy_X5_undo : zYV yX5_undo cX5_undo 1 (some .int) 0 := ⟨zw_338, zw_339, zw_39, zw_340, ⟨by decide, by decide⟩, by decide +kernel⟩
theorem zy_X5_rank : zYV yX5_rank cX5_rank 2 (some .int) 1 := ⟨zw_346, zw_347, zw_39, zw_348, ⟨by decide, by decide⟩, by decide +kernel⟩
theorem zy_X5_value : zYV yX5_value cX5_value 4 (some .long) 3 := ⟨zw_373, zw_374, zw_39, zw_375, ⟨by decide, by decide⟩, by decide +kernel⟩
theorem zy_X5_spread : zYV yX5_spread cX5_spread 4 (some .long) 3 := ⟨zw_423, zw_424, zw_39, zw_425, ⟨by decide, by decide⟩, by decide +kernel⟩
theorem zy_X5_total : zYV yX5_total cX5_total 3 (some .long) 2 := ⟨zw_431, zw_432, zw_39, zw_433, ⟨by decide, by decide⟩, by decide +kernel⟩
theorem zy_X5_rest : zYV yX5_rest cX5_rest 4 (some .long) 3 := ⟨zw_440, zw_441, zw_39, zw_442, ⟨by decide, by decide⟩, by decide +kernel⟩
theorem zy_X5_squares : zYV yX5_squares cX5_squares 3 (some .long) 2 := ⟨zw_449, zw_450, zw_39, zw_451, ⟨by decide, by decide⟩, by decide +kernel⟩
theorem zy_X5_next : zYV yX5_next cX5_next 10 (some .int) 1 := ⟨zw_457, zw_458, zw_39, zw_459, ⟨by decide, by decide⟩, by decide +kernel⟩
theorem zy_X5_better : zYV yX5_better cX5_better 8 (some .int) 0 := ⟨zw_476, zw_477, zw_39, zw_478, ⟨by decide, by decide⟩, by decide +kernel⟩
theorem zy_X5_doubtful : zYV yX5_doubtful cX5_doubtful 2 (some .int) 1 := ⟨zw_480, zw_481, zw_39, zw_482, ⟨by decide, by decide⟩, by decide +kernel⟩
theorem zy_X5_wrong : zYV yX5_wrong cX5_wrong 2 (some .int) 1 := ⟨zw_494, zw_495, zw_39, zw_496, ⟨by decide, by decide⟩, by decide +kernel⟩
theorem zy_X5_judge : zYV yX5_judge cX5_judge 7 (some .int) 2 := ⟨zw_502, zw_503, zw_39, zw_504, ⟨by decide, by decide⟩, by decide +kernel⟩
theorem zy_X5_share : zYV yX5_share cX5_share 10 (some .int) 3 := ⟨zw_523, zw_524, zw_39, zw_525, ⟨by decide, by decide⟩, by decide +kernel⟩
theorem zy_X5_lost : zYV yX5_lost cX5_lost 10 (some .int) 3 := ⟨zw_540, zw_541, zw_39, zw_542, ⟨by decide, by decide⟩, by decide +kernel⟩
theorem zy_X5_seed : zYV yX5_seed cX5_seed 5 (some .long) 1 := ⟨zw_545, zw_546, zw_39, zw_547, ⟨by decide, by decide⟩, by decide +kernel⟩
theorem zy_X5_drawn : zYV yX5_drawn cX5_drawn 5 (some .int) 1 := ⟨zw_549, zw_550, zw_39, zw_551, ⟨by decide, by decide⟩, by decide +kernel⟩
theorem zy_X5_keep : zYV yX5_keep cX5_keep 2 (some .int) 1 := ⟨zw_559, zw_560, zw_39, zw_561, ⟨by decide, by decide⟩, by decide +kernel⟩
theorem zy_X5_again : zYV yX5_again cX5_again 2 (some .int) 1 := ⟨zw_563, zw_564, zw_39, zw_565, ⟨by decide, by decide⟩, by decide +kernel⟩
theorem zy_X5_count : zYV yX5_count cX5_count 2 (some .int) 1 := ⟨zw_567, zw_568, zw_39, zw_569, ⟨by decide, by decide⟩, by decide +kernel⟩
theorem zy_X5_holds : zYV yX5_holds cX5_holds 6 (some .boolean) 1 := ⟨zw_508, zw_9, zw_39, zw_509, ⟨by decide, by decide⟩, by decide +kernel⟩
theorem zy_X5_exchanged : zYV yX5_exchanged cX5_exchanged 3 (some .boolean) 2 := ⟨zw_512, zw_10, zw_39, zw_513, ⟨by decide, by decide⟩, by decide +kernel⟩
theorem zy_X5_removed : zYV yX5_removed cX5_removed 2 (some .boolean) 1 := ⟨zw_516, zw_11, zw_39, zw_517, ⟨by decide, by decide⟩, by decide +kernel⟩
theorem zy_X5_masterSet : zYV yX5_masterSet cX5_masterSet 2 (some .boolean) 1 := ⟨zw_520, zw_12, zw_39, zw_521, ⟨by decide, by decide⟩, by decide +kernel⟩
theorem zy_X5_drawReadings : zYV yX5_drawReadings cX5_drawReadings 4 none 1 := ⟨zw_556, zw_13, zw_39, zw_557, ⟨by decide, by decide⟩, by decide +kernel⟩
theorem zy_X5_isReading : zYS yX5_isReading cX5_isReading 1 (some .boolean) 1 := ⟨zw_296, zw_39, zw_297, ⟨by decide, by decide⟩, by decide +kernel⟩
theorem zy_X5_isCode : zYS yX5_isCode cX5_isCode 4 (some .boolean) 2 := ⟨zw_293, zw_39, zw_294, ⟨by decide, by decide⟩, by decide +kernel⟩
theorem zy_X5_numbered : zYS yX5_numbered cX5_numbered 6 (some .int) 2 := ⟨zw_466, zw_39, zw_467, ⟨by decide, by decide⟩, by decide +kernel⟩
theorem zy_X5_power : zYS yX5_power cX5_power 4 (some .int) 2 := ⟨zw_462, zw_39, zw_463, ⟨by decide, by decide⟩, by decide +kernel⟩
theorem zy_X5_isLess : zYS yX5_isLess cX5_isLess 8 (some .boolean) 4 := ⟨zw_473, zw_39, zw_474, ⟨by decide, by decide⟩, by decide +kernel⟩
theorem zy_X5_told : zYS yX5_told cX5_told 7 (some .long) 3 := ⟨zw_414, zw_39, zw_415, ⟨by decide, by decide⟩, by decide +kernel⟩
theorem zy_X5_commonDivisor : zYS yX5_commonDivisor cX5_commonDivisor 11 (some .long) 2 := ⟨zw_420, zw_39, zw_421, ⟨by decide, by decide⟩, by decide +kernel⟩
theorem zy_X6_in : zYS yX6_in cX6_in 6 (some .boolean) 3 := ⟨zw_655, zw_45, zw_656, ⟨by decide, by decide⟩, by decide +kernel⟩
theorem zy_X6_has : zYS yX6_has cX6_has 2 (some .boolean) 2 := ⟨zw_764, zw_45, zw_765, ⟨by decide, by decide⟩, by decide +kernel⟩
theorem zy_X6_ones : zYS yX6_ones cX6_ones 3 (some .int) 1 := ⟨zw_782, zw_45, zw_783, ⟨by decide, by decide⟩, by decide +kernel⟩
theorem zy_X6_power : zYS yX6_power cX6_power 4 (some .int) 2 := ⟨zw_713, zw_45, zw_714, ⟨by decide, by decide⟩, by decide +kernel⟩
theorem zy_X6_copy : zYS yX6_copy cX6_copy 3 none 2 := ⟨zw_690, zw_45, zw_691, ⟨by decide, by decide⟩, by decide +kernel⟩
theorem zy_X6_noWeighing : zYV yX6_noWeighing cX6_noWeighing 2 (some .boolean) 1 := ⟨zw_698, zw_19, zw_45, zw_699, ⟨by decide, by decide⟩, by decide +kernel⟩
theorem zy_X6_allOf : zYS yX6_allOf cX6_allOf 1 (some .int) 1 := ⟨zw_753, zw_45, zw_754, ⟨by decide, by decide⟩, by decide +kernel⟩
theorem zy_X6_write : zYV yX6_write cX6_write 2 (some .int) 1 := ⟨zw_650, zw_651, zw_45, zw_652, ⟨by decide, by decide⟩, by decide +kernel⟩
theorem zy_X6_wipe : zYV yX6_wipe cX6_wipe 2 (some .int) 0 := ⟨zw_658, zw_659, zw_45, zw_660, ⟨by decide, by decide⟩, by decide +kernel⟩
theorem zy_X6_figure : zYV yX6_figure cX6_figure 4 (some .int) 2 := ⟨zw_675, zw_16, zw_45, zw_676, ⟨by decide, by decide⟩, by decide +kernel⟩
theorem zy_X6_sign : zYV yX6_sign cX6_sign 4 (some .int) 1 := ⟨zw_683, zw_18, zw_45, zw_684, ⟨by decide, by decide⟩, by decide +kernel⟩
theorem zy_X6_readHead : zYV yX6_readHead cX6_readHead 3 (some .boolean) 0 := ⟨zw_671, zw_15, zw_45, zw_672, ⟨by decide, by decide⟩, by decide +kernel⟩
theorem zy_X6_readWeighing : zYV yX6_readWeighing cX6_readWeighing 6 (some .boolean) 0 := ⟨zw_679, zw_17, zw_45, zw_680, ⟨by decide, by decide⟩, by decide +kernel⟩
theorem zy_X6_readRoom : zYV yX6_readRoom cX6_readRoom 2 (some .int) 0 := ⟨zw_667, zw_14, zw_45, zw_668, ⟨by decide, by decide⟩, by decide +kernel⟩
theorem zy_X6_fault : zYV yX6_fault cX6_fault 1 (some .int) 0 := ⟨zw_662, zw_663, zw_45, zw_664, ⟨by decide, by decide⟩, by decide +kernel⟩
theorem zy_X6_room : zYV yX6_room cX6_room 1 (some .int) 0 := ⟨zw_686, zw_687, zw_45, zw_688, ⟨by decide, by decide⟩, by decide +kernel⟩
theorem zy_X6_code : zYV yX6_code cX6_code 2 (some .int) 1 := ⟨zw_693, zw_694, zw_45, zw_695, ⟨by decide, by decide⟩, by decide +kernel⟩
theorem zy_X6_reading : zYV yX6_reading cX6_reading 2 (some .int) 1 := ⟨zw_701, zw_702, zw_45, zw_703, ⟨by decide, by decide⟩, by decide +kernel⟩
theorem zy_X6_note : zYV yX6_note cX6_note 2 none 0 := ⟨zw_719, zw_21, zw_45, zw_720, ⟨by decide, by decide⟩, by decide +kernel⟩
theorem zy_X6_isCode : zYV yX6_isCode cX6_isCode 4 (some .boolean) 1 := ⟨zw_710, zw_20, zw_45, zw_711, ⟨by decide, by decide⟩, by decide +kernel⟩
theorem zy_X6_weigh : zYV yX6_weigh cX6_weigh 3 (some .int) 2 := ⟨zw_705, zw_706, zw_45, zw_707, ⟨by decide, by decide⟩, by decide +kernel⟩
theorem zy_X6_takeOn : zYS yX6_takeOn cX6_takeOn 3 none 2 := ⟨zw_726, zw_45, zw_727, ⟨by decide, by decide⟩, by decide +kernel⟩
theorem zy_X6_swapOn : zYS yX6_swapOn cX6_swapOn 5 none 3 := ⟨zw_733, zw_45, zw_734, ⟨by decide, by decide⟩, by decide +kernel⟩
theorem zy_X6_take : zYV yX6_take cX6_take 2 (some .int) 1 := ⟨zw_722, zw_723, zw_45, zw_724, ⟨by decide, by decide⟩, by decide +kernel⟩
theorem zy_X6_swap : zYV yX6_swap cX6_swap 3 (some .int) 2 := ⟨zw_729, zw_730, zw_45, zw_731, ⟨by decide, by decide⟩, by decide +kernel⟩
theorem zy_X6_read : zYV yX6_read cX6_read 4 (some .int) 2 := ⟨zw_736, zw_737, zw_45, zw_738, ⟨by decide, by decide⟩, by decide +kernel⟩
theorem zy_X6_master : zYV yX6_master cX6_master 3 (some .int) 1 := ⟨zw_740, zw_741, zw_45, zw_742, ⟨by decide, by decide⟩, by decide +kernel⟩
theorem zy_X6_undo : zYV yX6_undo cX6_undo 2 (some .int) 0 := ⟨zw_745, zw_746, zw_45, zw_747, ⟨by decide, by decide⟩, by decide +kernel⟩
theorem zy_X6_panOf : zYV yX6_panOf cX6_panOf 4 (some .int) 2 := ⟨zw_772, zw_25, zw_45, zw_773, ⟨by decide, by decide⟩, by decide +kernel⟩
theorem zy_X6_layColumns : zYV yX6_layColumns cX6_layColumns 5 none 3 := ⟨zw_768, zw_24, zw_45, zw_769, ⟨by decide, by decide⟩, by decide +kernel⟩
theorem zy_X6_pureOf : zYS yX6_pureOf cX6_pureOf 3 (some .int) 3 := ⟨zw_775, zw_45, zw_776, ⟨by decide, by decide⟩, by decide +kernel⟩
theorem zy_X6_layGram : zYV yX6_layGram cX6_layGram 9 none 3 := ⟨zw_761, zw_23, zw_45, zw_762, ⟨by decide, by decide⟩, by decide +kernel⟩
theorem zy_X6_determinant : zYV yX6_determinant cX6_determinant 11 (some .long) 1 := ⟨zw_790, zw_28, zw_45, zw_791, ⟨by decide, by decide⟩, by decide +kernel⟩
theorem zy_X6_minor : zYV yX6_minor cX6_minor 6 (some .long) 2 := ⟨zw_786, zw_27, zw_45, zw_787, ⟨by decide, by decide⟩, by decide +kernel⟩
theorem zy_X6_columns : zYV yX6_columns cX6_columns 1 (some .int) 0 := ⟨zw_779, zw_26, zw_45, zw_780, ⟨by decide, by decide⟩, by decide +kernel⟩
theorem zy_X6_rankOf : zYV yX6_rankOf cX6_rankOf 6 (some .int) 3 := ⟨zw_757, zw_22, zw_45, zw_758, ⟨by decide, by decide⟩, by decide +kernel⟩
theorem zy_X6_isLaid : zYV yX6_isLaid cX6_isLaid 4 (some .boolean) 3 := ⟨zw_803, zw_30, zw_45, zw_804, ⟨by decide, by decide⟩, by decide +kernel⟩
theorem zy_X6_divisor : zYS yX6_divisor cX6_divisor 10 (some .long) 2 := ⟨zw_811, zw_45, zw_812, ⟨by decide, by decide⟩, by decide +kernel⟩
theorem zy_X6_layFraction : zYV yX6_layFraction cX6_layFraction 7 none 2 := ⟨zw_808, zw_31, zw_45, zw_809, ⟨by decide, by decide⟩, by decide +kernel⟩
theorem zy_X6_told : zYV yX6_told cX6_told 2 (some .long) 1 := ⟨zw_815, zw_32, zw_45, zw_816, ⟨by decide, by decide⟩, by decide +kernel⟩
theorem zy_X6_layTotal : zYV yX6_layTotal cX6_layTotal 4 none 0 := ⟨zw_827, zw_33, zw_45, zw_828, ⟨by decide, by decide⟩, by decide +kernel⟩
theorem zy_X6_laySquares : zYV yX6_laySquares cX6_laySquares 6 none 0 := ⟨zw_839, zw_34, zw_45, zw_840, ⟨by decide, by decide⟩, by decide +kernel⟩
theorem zy_X6_rank : zYV yX6_rank cX6_rank 2 (some .int) 1 := ⟨zw_749, zw_750, zw_45, zw_751, ⟨by decide, by decide⟩, by decide +kernel⟩
theorem zy_X6_noColumn : zYV yX6_noColumn cX6_noColumn 3 (some .boolean) 2 := ⟨zw_798, zw_29, zw_45, zw_799, ⟨by decide, by decide⟩, by decide +kernel⟩
theorem zy_X6_value : zYV yX6_value cX6_value 4 (some .long) 3 := ⟨zw_793, zw_794, zw_45, zw_795, ⟨by decide, by decide⟩, by decide +kernel⟩
theorem zy_X6_spread : zYV yX6_spread cX6_spread 4 (some .long) 3 := ⟨zw_818, zw_819, zw_45, zw_820, ⟨by decide, by decide⟩, by decide +kernel⟩
theorem zy_X6_total : zYV yX6_total cX6_total 3 (some .long) 2 := ⟨zw_822, zw_823, zw_45, zw_824, ⟨by decide, by decide⟩, by decide +kernel⟩
theorem zy_X6_rest : zYV yX6_rest cX6_rest 9 (some .long) 3 := ⟨zw_830, zw_831, zw_45, zw_832, ⟨by decide, by decide⟩, by decide +kernel⟩
theorem zy_X6_squares : zYV yX6_squares cX6_squares 3 (some .long) 2 := ⟨zw_834, zw_835, zw_45, zw_836, ⟨by decide, by decide⟩, by decide +kernel⟩
theorem zy_X6_next : zYV yX6_next cX6_next 10 (some .int) 1 := ⟨zw_842, zw_843, zw_45, zw_844, ⟨by decide, by decide⟩, by decide +kernel⟩
theorem zy_X6_better : zYV yX6_better cX6_better 8 (some .int) 0 := ⟨zw_846, zw_847, zw_45, zw_848, ⟨by decide, by decide⟩, by decide +kernel⟩
theorem zy_X6_doubtfulOf : zYV yX6_doubtfulOf cX6_doubtfulOf 9 (some .int) 2 := ⟨zw_855, zw_35, zw_45, zw_856, ⟨by decide, by decide⟩, by decide +kernel⟩
theorem zy_X6_doubtful : zYV yX6_doubtful cX6_doubtful 2 (some .int) 1 := ⟨zw_850, zw_851, zw_45, zw_852, ⟨by decide, by decide⟩, by decide +kernel⟩
theorem zy_X6_wrong : zYV yX6_wrong cX6_wrong 4 (some .int) 1 := ⟨zw_858, zw_859, zw_45, zw_860, ⟨by decide, by decide⟩, by decide +kernel⟩
theorem zy_X6_isWorth : zYV yX6_isWorth cX6_isWorth 3 (some .boolean) 2 := ⟨zw_876, zw_37, zw_45, zw_877, ⟨by decide, by decide⟩, by decide +kernel⟩
theorem zy_X6_does : zYV yX6_does cX6_does 5 (some .boolean) 3 := ⟨zw_872, zw_36, zw_45, zw_873, ⟨by decide, by decide⟩, by decide +kernel⟩
theorem zy_X6_longPower : zYS yX6_longPower cX6_longPower 6 (some .long) 2 := ⟨zw_868, zw_45, zw_869, ⟨by decide, by decide⟩, by decide +kernel⟩
theorem zy_X6_judge : zYV yX6_judge cX6_judge 6 (some .int) 2 := ⟨zw_862, zw_863, zw_45, zw_864, ⟨by decide, by decide⟩, by decide +kernel⟩
theorem zy_X6_factorial : zYS yX6_factorial cX6_factorial 3 (some .int) 1 := ⟨zw_883, zw_45, zw_884, ⟨by decide, by decide⟩, by decide +kernel⟩
theorem zy_X6_share : zYV yX6_share cX6_share 10 (some .int) 3 := ⟨zw_879, zw_880, zw_45, zw_881, ⟨by decide, by decide⟩, by decide +kernel⟩
theorem zy_X6_lost : zYV yX6_lost cX6_lost 9 (some .int) 3 := ⟨zw_886, zw_887, zw_45, zw_888, ⟨by decide, by decide⟩, by decide +kernel⟩
theorem zy_X6_seed : zYV yX6_seed cX6_seed 5 (some .long) 1 := ⟨zw_891, zw_892, zw_45, zw_893, ⟨by decide, by decide⟩, by decide +kernel⟩
theorem zy_X6_drawn : zYV yX6_drawn cX6_drawn 8 (some .int) 1 := ⟨zw_895, zw_896, zw_45, zw_897, ⟨by decide, by decide⟩, by decide +kernel⟩
theorem zy_X6_keep : zYV yX6_keep cX6_keep 3 (some .int) 1 := ⟨zw_902, zw_903, zw_45, zw_904, ⟨by decide, by decide⟩, by decide +kernel⟩
theorem zy_X6_again : zYV yX6_again cX6_again 3 (some .int) 1 := ⟨zw_906, zw_907, zw_45, zw_908, ⟨by decide, by decide⟩, by decide +kernel⟩
theorem zy_X6_count : zYV yX6_count cX6_count 2 (some .int) 1 := ⟨zw_910, zw_911, zw_45, zw_912, ⟨by decide, by decide⟩, by decide +kernel⟩
theorem zy_J6_bitCount_0f7a4 : zYS yJ6_bitCount_0f7a4 cJ6_bitCount_0f7a4 1 (some .int) 1 := ⟨zw_531, zw_48, zw_532, ⟨by decide, by decide⟩, by decide +kernel⟩
end
section
/-! plain words: a drift told, a room, the numbers that a weighing lays out -/
def zdr (d : Bool) : Int32 := if d then nI 1 else nI 0
def zunk (w : Nat) (d : Bool) : Nat := if d then w + 1 else w
def zsgd (p : Nat) : Int := if p = 2 then -1 else (p : Int)
/-- a code of w weights -/
def zcode (w c : Nat) : Prop := c < 10 ^ (w + 1) ∧ ∀ k, k ≤ w → c / 10 ^ k % 10 ≤ 2
def zdig (c w i : Nat) : Nat := c / 10 ^ (w - 1 - i) % 10
/-- what a weighing t of code c and reading r lays out at i -/
def zLn (w mm : Nat) (d : Bool) (c : Nat) (r : Int) (t i : Nat) : Int := if i < w then zsgd (zdig c w i) else if d = true ∧ i = w then (t : Int) else r - zsgd (c / 10 ^ w) * mm
section ZD
variable {E : zE} {x : zX} {cc : ByteArray} {own : String} {nL : Nat} {R : Room} {pc : Nat} {lv : List (Nat × Value)} {st : List Value} {M : zM}
theorem z_if_eq_d (hx : zOk E x cc own nL R) {b : Bool} {off : Int} {tgt : Nat} (d : decode cc pc = .ok (.ifCond .eq off, 3)) (ht : (pc : Int) + off = (tgt : Int)) (kt : b = false → zJ E x tgt lv st M) (kf : b = true → zJ E x (pc + 3) lv st M) : zJ E x pc lv (.int (zdr b) :: st) M := z_if_eq hx d ht (fun q => kt (by cases b; rfl; exact absurd q (by decide +kernel))) (fun q => kf (by cases b; exact absurd (by decide +kernel) q; rfl))
theorem z_if_ne_d (hx : zOk E x cc own nL R) {b : Bool} {off : Int} {tgt : Nat} (d : decode cc pc = .ok (.ifCond .ne off, 3)) (ht : (pc : Int) + off = (tgt : Int)) (kt : b = true → zJ E x tgt lv st M) (kf : b = false → zJ E x (pc + 3) lv st M) : zJ E x pc lv (.int (zdr b) :: st) M := z_if_ne hx d ht (fun q => kt (by cases b; exact absurd (by decide +kernel) q; rfl)) (fun q => kf (by cases b; rfl; exact absurd q (by decide +kernel)))
end ZD
theorem zdr_01 (d : Bool) : zdr d = 0 ∨ zdr d = 1 := by cases d; exact Or.inl (by decide +kernel); exact Or.inr (by decide +kernel)
theorem zix {x : Int32} {n : Nat} (hn : n < 2 ^ 31) (h1 : ¬ x < 0) (h2 : ¬ nI n ≤ x) : ∃ j : Nat, j < n ∧ x = nI j := by
  rcases pk_ix x hn with h | h | h
  · exact absurd h h1
  · exact absurd h h2
  · exact h
/-- reading a memory that was written -/
theorem zg_putI (M : zM) (c k : Nat) (v : Int32) (c' k' : Nat) : (zputI M c k v).1 c' k' = if c' = c ∧ k' = k then v else M.1 c' k' := by
  unfold zputI va_up upd
  by_cases h : c' = c
  · subst h
    by_cases h2 : k' = k <;> simp [h2]
  · simp [h]
theorem zg_putI_J (M : zM) (c k : Nat) (v : Int32) : (zputI M c k v).2 = M.2 := rfl
theorem zg_putJ (M : zM) (c k : Nat) (v : Int64) (c' k' : Nat) : (zputJ M c k v).2 c' k' = if c' = c ∧ k' = k then v else M.2 c' k' := by
  unfold zputJ va_up vp_updL
  by_cases h : c' = c
  · subst h
    by_cases h2 : k' = k <;> simp [h2]
  · simp [h]
theorem zg_putJ_I (M : zM) (c k : Nat) (v : Int64) : (zputJ M c k v).1 = M.1 := rfl
theorem zg_setI (M : zM) (c : Nat) (g : Nat → Int32) (c' : Nat) : (zsetI M c g).1 c' = if c' = c then g else M.1 c' := rfl
theorem zg_setI_J (M : zM) (c : Nat) (g : Nat → Int32) : (zsetI M c g).2 = M.2 := rfl
theorem zg_setJ (M : zM) (c : Nat) (h : Nat → Int64) (c' : Nat) : (zsetJ M c h).2 c' = if c' = c then h else M.2 c' := rfl
theorem zg_setJ_I (M : zM) (c : Nat) (h : Nat → Int64) : (zsetJ M c h).1 = M.1 := rfl
theorem zputI_set (M : zM) (c k : Nat) (g : Nat → Int32) (v : Int32) : zputI (zsetI M c g) c k v = zsetI M c (upd g k v) := by
  unfold zputI zsetI
  refine Prod.ext ?_ rfl
  funext i
  by_cases h : i = c <;> simp [va_up, h]
theorem zputJ_set (M : zM) (c k : Nat) (g : Nat → Int64) (v : Int64) : zputJ (zsetJ M c g) c k v = zsetJ M c (vp_updL g k v) := by
  unfold zputJ zsetJ
  refine Prod.ext rfl ?_
  funext i
  by_cases h : i = c <;> simp [va_up, h]
theorem zsetI_self (M : zM) (c : Nat) : zsetI M c (M.1 c) = M := by unfold zsetI; rw [zup_self]
theorem zsetJ_self (M : zM) (c : Nat) : zsetJ M c (M.2 c) = M := by unfold zsetJ; rw [zup_self]
/-- nothing is changed but in cells of cs -/
def zfr (cs : Nat → Prop) (M M2 : zM) : Prop := ∀ c, ¬ cs c → M2.1 c = M.1 c ∧ M2.2 c = M.2 c
theorem zfr_rf (cs : Nat → Prop) (M : zM) : zfr cs M M := fun _ _ => ⟨rfl, rfl⟩
theorem zfr_tr {cs : Nat → Prop} {M M1 M2 : zM} (h1 : zfr cs M M1) (h2 : zfr cs M1 M2) : zfr cs M M2 := fun c hc => ⟨((h2 c hc).1).trans (h1 c hc).1, ((h2 c hc).2).trans (h1 c hc).2⟩
theorem zfr_w {cs cs2 : Nat → Prop} {M M1 : zM} (h1 : zfr cs M M1) (h : ∀ c, cs c → cs2 c) : zfr cs2 M M1 := fun c hc => h1 c (fun q => hc (h c q))
theorem zfr_putI {cs : Nat → Prop} {M : zM} {c k : Nat} {v : Int32} (h : cs c) : zfr cs M (zputI M c k v) := fun c' hc => ⟨by
  have e : ¬ c' = c := fun q => hc (q ▸ h)
  simp [zputI, va_up, e], rfl⟩
theorem zfr_putJ {cs : Nat → Prop} {M : zM} {c k : Nat} {v : Int64} (h : cs c) : zfr cs M (zputJ M c k v) := fun c' hc => ⟨rfl, by
  have e : ¬ c' = c := fun q => hc (q ▸ h)
  simp [zputJ, va_up, e]⟩
theorem zfr_setI {cs : Nat → Prop} {M : zM} {c : Nat} {g : Nat → Int32} (h : cs c) : zfr cs M (zsetI M c g) := fun c' hc => ⟨by
  have e : ¬ c' = c := fun q => hc (q ▸ h)
  simp [zsetI, va_up, e], rfl⟩
theorem zfr_setJ {cs : Nat → Prop} {M : zM} {c : Nat} {g : Nat → Int64} (h : cs c) : zfr cs M (zsetJ M c g) := fun c' hc => ⟨rfl, by
  have e : ¬ c' = c := fun q => hc (q ▸ h)
  simp [zsetJ, va_up, e]⟩
section ZR
variable {M : zM} {c k c' k' : Nat} {v r : Int32} {u q : Int64} {g : Nat → Int32} {h : Nat → Int64}
theorem zskI (h : ¬ c' = c) (e : M.1 c' k' = r) : (zputI M c k v).1 c' k' = r := by rw [zg_putI, if_neg (fun z => h z.1)]; exact e
theorem zskK (h : ¬ k' = k) (e : M.1 c' k' = r) : (zputI M c k v).1 c' k' = r := by rw [zg_putI, if_neg (fun z => h z.2)]; exact e
theorem zhtI : (zputI M c k v).1 c k = v := by rw [zg_putI, if_pos ⟨rfl, rfl⟩]
theorem zskSI (h : ¬ c' = c) (e : M.1 c' k' = r) : (zsetI M c g).1 c' k' = r := by rw [zg_setI, if_neg h]; exact e
theorem zhtSI : (zsetI M c g).1 c k = g k := by rw [zg_setI, if_pos rfl]
theorem zskJ (h : ¬ c' = c) (e : M.2 c' k' = q) : (zputJ M c k u).2 c' k' = q := by rw [zg_putJ, if_neg (fun z => h z.1)]; exact e
theorem zskKJ (h : ¬ k' = k) (e : M.2 c' k' = q) : (zputJ M c k u).2 c' k' = q := by rw [zg_putJ, if_neg (fun z => h z.2)]; exact e
theorem zhtJ : (zputJ M c k u).2 c k = u := by rw [zg_putJ, if_pos ⟨rfl, rfl⟩]
theorem zskSJ (hh : ¬ c' = c) (e : M.2 c' k' = q) : (zsetJ M c h).2 c' k' = q := by rw [zg_setJ, if_neg hh]; exact e
theorem zhtSJ : (zsetJ M c h).2 c k = h k := by rw [zg_setJ, if_pos rfl]
theorem zskJI (e : M.1 c' k' = r) : (zputJ M c k u).1 c' k' = r := e
theorem zskSJI (e : M.1 c' k' = r) : (zsetJ M c h).1 c' k' = r := e
theorem zskIJ (e : M.2 c' k' = q) : (zputI M c k v).2 c' k' = q := e
theorem zskSIJ (e : M.2 c' k' = q) : (zsetI M c g).2 c' k' = q := e
end ZR
/-- a sum over the first n -/
def zS : Nat → (Nat → Int) → Int
  | 0, _ => 0
  | n + 1, f => zS n f + f n
theorem zS_cong {f g : Nat → Int} : ∀ {n : Nat}, (∀ k, k < n → f k = g k) → zS n f = zS n g
  | 0, _ => rfl
  | n + 1, h => by rw [zS, zS, zS_cong (fun k hk => h k (Nat.lt_succ_of_lt hk)), h n (Nat.lt_succ_self n)]
/-- cell a of M holds a room of w weights, the master mm, n weighings of codes cd and readings rd -/
def zRm (M : zM) (a w n mm : Nat) (cd : Nat → Nat) (rd : Nat → Int) : Prop := M.1 a 0 = nI w ∧ (1 ≤ w ∧ w ≤ 4) ∧ M.1 a 1 = nI mm ∧ mm ≤ 99 ∧ M.1 a 2 = nI n ∧ n ≤ 8 ∧ ∀ t, t < n → M.1 (a + 1) t = nI (cd t) ∧ cd t < 100000 ∧ zcode w (cd t) ∧ M.1 (a + 2) t = Int32.ofInt (rd t) ∧ -1000 ≤ rd t ∧ rd t ≤ 1000
theorem zRm_fr {cs : Nat → Prop} {M N : zM} {a w n mm : Nat} {cd : Nat → Nat} {rd : Nat → Int} (h : zRm M a w n mm cd rd) (hf : zfr cs M N) (h0 : ¬ cs a) (h1 : ¬ cs (a + 1)) (h2 : ¬ cs (a + 2)) : zRm N a w n mm cd rd := by
  obtain ⟨q1, q2, q3, q4, q5, q6, q7⟩ := h
  refine ⟨by rw [(hf a h0).1]; exact q1, q2, by rw [(hf a h0).1]; exact q3, q4, by rw [(hf a h0).1]; exact q5, q6, fun t ht => ?_⟩
  obtain ⟨r1, r2, r3, r4, r5⟩ := q7 t ht
  exact ⟨by rw [(hf _ h1).1]; exact r1, r2, r3, by rw [(hf _ h2).1]; exact r4, r5⟩
end
section
theorem zsg_p (p : Nat) : nI p = Int32.ofInt (p : Int) := rfl
def zshf (g : Nat → Int32) (j t : Nat) : Nat → Int32 := fun k => if j ≤ k ∧ k < t then g (k + 1) else g k
theorem zshf_0 (g : Nat → Int32) (j : Nat) : zshf g j j = g := by
  funext k
  unfold zshf
  rw [if_neg (by omega)]
theorem zshf_s (g : Nat → Int32) {j t : Nat} (h : j ≤ t) : upd (zshf g j t) t (zshf g j t (t + 1)) = zshf g j (t + 1) := by
  funext k
  unfold zshf upd
  by_cases e : k = t
  · subst e
    rw [if_pos rfl, if_neg (by omega), if_pos (by omega)]
  · rw [if_neg e]
    show (if j ≤ k ∧ k < t then g (k + 1) else g k) = _
    by_cases q : j ≤ k ∧ k < t
    · rw [if_pos q, if_pos (by omega)]
    · rw [if_neg q, if_neg (by omega)]
theorem zps2 {M : zM} {c1 c2 k1 k2 : Nat} {g1 g2 : Nat → Int32} {v1 v2 : Int32} (h : ¬ c1 = c2) : zputI (zputI (zsetI (zsetI M c1 g1) c2 g2) c1 k1 v1) c2 k2 v2 = zsetI (zsetI M c1 (upd g1 k1 v1)) c2 (upd g2 k2 v2) := by
  refine Prod.ext ?_ rfl
  funext i
  simp only [zputI, zsetI, va_up]
  by_cases e1 : i = c1
  · subst e1
    simp [h]
  · by_cases e2 : i = c2
    · subst e2
      have h2 : ¬ i = c1 := e1
      simp [h2]
    · simp [e1, e2]
def zdn : Nat → Int32
  | 0 => -1
  | i + 1 => nI i
theorem zdn_dec (i : Nat) : nI i + Int32.ofInt (-1) = zdn i := by
  cases i with
  | zero => decide +kernel
  | succ i => exact pk_m1 i
theorem zdn_w {w : Nat} (h : 1 ≤ w) : zdn w = nI (w - 1) := by
  cases w with
  | zero => omega
  | succ i => rfl
def zlo (g : Nat → Int64) (w c i : Nat) : Nat → Int64 := fun k => if i ≤ k ∧ k < w then Int64.ofInt (zsgd (zdig c w k)) else g k
theorem zlo_w (g : Nat → Int64) (w c : Nat) : zlo g w c w = g := by
  funext k
  unfold zlo
  rw [if_neg (by omega)]
theorem zsg_wide (p : Nat) (h : p < 100) : (Int32.ofInt (zsgd p)).toInt64 = Int64.ofInt (zsgd p) := by
  unfold zsgd
  split
  · decide +kernel
  · show (nI p).toInt64 = lN p
    exact nI_l (by omega)
theorem zlo_s {g : Nat → Int64} {w c i : Nat} (h : i + 1 ≤ w) : vp_updL (zlo g w c (i + 1)) i (Int32.ofInt (zsgd (c / 10 ^ (w - (i + 1)) % 10))).toInt64 = zlo g w c i := by
  funext k
  unfold zlo vp_updL
  by_cases e : k = i
  · subst e
    rw [if_pos rfl, if_pos (by omega), zsg_wide _ (by omega)]
    unfold zdig
    rw [show w - (k + 1) = w - 1 - k by omega]
  · rw [if_neg e]
    show (if i + 1 ≤ k ∧ k < w then Int64.ofInt (zsgd (zdig c w k)) else g k) = _
    by_cases q : i ≤ k ∧ k < w
    · rw [if_pos q, if_pos (by omega)]
    · rw [if_neg q, if_neg (by omega)]
theorem zdiv10 {w c i : Nat} (h : i + 1 ≤ w) : c / 10 ^ (w - (i + 1)) / 10 = c / 10 ^ (w - i) := by
  rw [Nat.div_div_eq_div_mul, ← Nat.pow_succ, show (w - (i + 1)).succ = w - i by omega]
theorem zi32 {z : Int} (h1 : -2147483648 ≤ z) (h2 : z ≤ 2147483647) : (Int32.ofInt z).toInt64 = Int64.ofInt z := by
  apply Int64.toInt_inj.mp
  rw [Int32.toInt_toInt64, Int32.toInt_ofInt_of_le (by omega) (by omega), Int64.toInt_ofInt_of_le (by omega) (by omega)]
theorem zlast {w mm c : Nat} {r : Int} (hcw : zcode w c) (hr1 : -1000 ≤ r) (hr2 : r ≤ 1000) (hmm : mm ≤ 99) : (Int32.ofInt r - Int32.ofInt (zsgd (c / 10 ^ w)) * nI mm).toInt64 = Int64.ofInt (r - zsgd (c / 10 ^ w) * mm) := by
  have hd : c / 10 ^ w ≤ 2 := by
    have h := hcw.2 w (Nat.le_refl _)
    have h2 : c / 10 ^ w < 10 := by
      have := hcw.1
      rw [Nat.pow_succ, Nat.mul_comm] at this
      exact Nat.div_lt_of_lt_mul (by rw [Nat.mul_comm]; exact this)
    omega
  have e : Int32.ofInt r - Int32.ofInt (zsgd (c / 10 ^ w)) * nI mm = Int32.ofInt (r - zsgd (c / 10 ^ w) * mm) := by
    rw [Int32.ofInt_sub, Int32.ofInt_mul]
    rfl
  rw [e]
  have hs : zsgd (c / 10 ^ w) = -1 ∨ zsgd (c / 10 ^ w) = 0 ∨ zsgd (c / 10 ^ w) = 1 := by
    generalize c / 10 ^ w = q at hd
    unfold zsgd
    rcases (show q = 0 ∨ q = 1 ∨ q = 2 by omega) with rfl | rfl | rfl <;> simp
  apply zi32
  · rcases hs with h | h | h <;> rw [h] <;> omega
  · rcases hs with h | h | h <;> rw [h] <;> omega
theorem zlay_f {M : zM} {d : Bool} {w mm c t ln : Nat} {r : Int} (hd : d = false) (h4 : w ≤ 4) (hcw : zcode w c) (hr1 : -1000 ≤ r) (hr2 : r ≤ 1000) (hmm : mm ≤ 99) : zputJ (zsetJ M ln (zlo (M.2 ln) w c 0)) ln (zunk w d) (Int32.ofInt r - Int32.ofInt (zsgd (c / 10 ^ (w - 0))) * nI mm).toInt64 = zsetJ M ln (fun i => if i ≤ zunk w d then Int64.ofInt (zLn w mm d c r t i) else M.2 ln i) := by
  subst hd
  rw [zputJ_set, Nat.sub_zero, zlast hcw hr1 hr2 hmm]
  congr 1
  funext k
  unfold vp_updL zlo zLn zunk
  simp only [Bool.false_eq_true, if_false, false_and]
  by_cases e : k = w
  · subst e
    simp
  · by_cases q : k < w
    · simp [e, q, Nat.le_of_lt q]
    · have q2 : ¬ k ≤ w := by omega
      simp [e, q, q2]
theorem zlay_t {M : zM} {d : Bool} {w mm c t ln : Nat} {r : Int} (hd : d = true) (h4 : w ≤ 4) (hcw : zcode w c) (hr1 : -1000 ≤ r) (hr2 : r ≤ 1000) (hmm : mm ≤ 99) (ht : t < 8) : zputJ (zputJ (zsetJ M ln (zlo (M.2 ln) w c 0)) ln w (nI t).toInt64) ln (zunk w d) (Int32.ofInt r - Int32.ofInt (zsgd (c / 10 ^ (w - 0))) * nI mm).toInt64 = zsetJ M ln (fun i => if i ≤ zunk w d then Int64.ofInt (zLn w mm d c r t i) else M.2 ln i) := by
  subst hd
  rw [zputJ_set, zputJ_set, Nat.sub_zero, zlast hcw hr1 hr2 hmm, nI_l (by omega)]
  congr 1
  funext k
  unfold vp_updL zlo zLn zunk
  simp only [if_true, true_and]
  by_cases e : k = w + 1
  · subst e
    have q1 : ¬ w + 1 < w := by omega
    simp [q1]
  · by_cases e2 : k = w
    · subst e2
      simp
      rfl
    · by_cases q : k < w
      · have q2 : k ≤ w + 1 := by omega
        simp [e, e2, q, q2]
      · have q2 : ¬ k ≤ w + 1 := by omega
        simp [e, e2, q, q2]
theorem zunk_le {w : Nat} (h : w ≤ 4) (d : Bool) : zunk w d ≤ 5 := by unfold zunk; split <;> omega
theorem zRoom_apart {a b : Nat} (ha : zRoom a) (hb : zRoom b) (h : ¬ a = b) : a + 3 ≤ b ∨ b + 3 ≤ a := by
  obtain ⟨k, h1, h2⟩ := ha
  obtain ⟨j, h3, h4⟩ := hb
  omega
set_option maxHeartbeats 4000000 in
set_option maxRecDepth 100000 in
theorem k_X3_signOf {E : zE} (hI : zI E) (M : zM) (p : Nat) (hp : p < 2 ^ 31) : zK E yX3_signOf (.code yX3_signOf cX3_signOf 1 (some .int)) (zrm 0 0) [.int (nI p)] M (zpi (fun v M2 => v = Int32.ofInt (zsgd p) ∧ M2 = M)) := by
  refine zK_of hI (by decide) (Nat.le_of_ble_eq_true rfl) (fun x hx ri rz rl rv => ?_)
  show zJ E x 0 [(0, .int (nI p))] [] M
  refine z_iload_n hx 0 dX3_signOf_0 rfl rfl ?_
  refine z_iconst hx (v := nI 2) dX3_signOf_1 (by decide +kernel) ?_
  refine z_icmp_ne_n (tgt := 9) hx (by omega) (by omega) dX3_signOf_2 (by decide) (fun h2 => ?_) (fun h2 => ?_)
  · skip
    refine z_iload_n hx 0 dX3_signOf_9 rfl rfl ?_
    exact ri _ _ _ _ rfl ⟨_, rfl, ⟨by rw [zsgd, if_neg (by omega)]; exact zsg_p _, rfl⟩⟩ dX3_signOf_10
  · skip
    refine z_iconst hx (v := (-1)) dX3_signOf_5 rfl ?_
    refine z_goto (tgt := 10) hx dX3_signOf_6 (by decide) ?_
    exact ri _ _ _ _ rfl ⟨_, rfl, ⟨by rw [zsgd, if_pos (by omega)]; rfl, rfl⟩⟩ dX3_signOf_10
set_option maxHeartbeats 4000000 in
set_option maxRecDepth 100000 in
theorem k_X3_unknowns {E : zE} (hI : zI E) (M : zM) {a w : Nat} (ha : zRoom a) (hw : M.1 a 0 = nI w) (d : Bool) : zK E yX3_unknowns (.code yX3_unknowns cX3_unknowns 2 (some .int)) (zrm 0 0) [.ref (E.2.2.2 a), .int (zdr d)] M (zpi (fun v M2 => v = nI (zunk w d) ∧ M2 = M)) := by
  refine zK_of hI (by decide) (Nat.le_of_ble_eq_true rfl) (fun x hx ri rz rl rv => ?_)
  show zJ E x 0 [(0, .ref (E.2.2.2 a)), (1, .int (zdr d))] [] M
  refine z_iload_n hx 1 dX3_unknowns_0 rfl rfl ?_
  refine z_if_eq_d (tgt := 13) hx dX3_unknowns_1 (by decide) (fun h1 => ?_) (fun h1 => ?_)
  · skip
    refine z_aload_n hx 0 dX3_unknowns_13 rfl rfl ?_
    refine zg_X3_0 hx ha zw_79 dX3_unknowns_14 ?_
    refine z_eqi hw ?_
    exact ri _ _ _ _ rfl ⟨_, rfl, ⟨by simp [zunk, *], rfl⟩⟩ dX3_unknowns_17
  · skip
    refine z_aload_n hx 0 dX3_unknowns_4 rfl rfl ?_
    refine zg_X3_0 hx ha zw_79 dX3_unknowns_5 ?_
    refine z_eqi hw ?_
    refine z_iconst hx (v := nI 1) dX3_unknowns_8 (by decide +kernel) ?_
    refine z_iadd_n hx dX3_unknowns_9 ?_
    refine z_goto (tgt := 17) hx dX3_unknowns_10 (by decide) ?_
    exact ri _ _ _ _ rfl ⟨_, rfl, ⟨by simp [zunk, *], rfl⟩⟩ dX3_unknowns_17
set_option maxHeartbeats 4000000 in
set_option maxRecDepth 100000 in
theorem k_X3_has {E : zE} (hI : zI E) (M : zM) {a n : Nat} (ha : zRoom a) (hn : M.1 a 2 = nI n) (h8 : n ≤ 8) (t : Int32) : zK E yX3_has (.code yX3_has cX3_has 2 (some .boolean)) (zrm 0 0) [.ref (E.2.2.2 a), .int t] M (zpi (fun v M2 => ((∃ j : Nat, j < n ∧ t = nI j ∧ v = nI 1) ∨ ((t < 0 ∨ nI n ≤ t) ∧ v = nI 0)) ∧ M2 = M)) := by
  refine zK_of hI (by decide) (Nat.le_of_ble_eq_true rfl) (fun x hx ri rz rl rv => ?_)
  show zJ E x 0 [(0, .ref (E.2.2.2 a)), (1, .int t)] [] M
  refine z_iload_n hx 1 dX3_has_0 rfl rfl ?_
  refine z_if_lt (tgt := 16) hx dX3_has_1 (by decide) (fun h1 => ?_) (fun h1 => ?_)
  · skip
    refine z_iconst hx (v := nI 0) dX3_has_16 (by decide +kernel) ?_
    exact rz _ _ _ _ rfl (Or.inl rfl) ⟨_, rfl, ⟨Or.inr ⟨by first | exact Or.inl h1 | exact Or.inr h9, rfl⟩, rfl⟩⟩ dX3_has_17
  · skip
    refine z_iload_n hx 1 dX3_has_4 rfl rfl ?_
    refine z_aload_n hx 0 dX3_has_5 rfl rfl ?_
    refine zg_X3_2 hx ha zw_84 dX3_has_6 ?_
    refine z_eqi hn ?_
    refine z_icmp_ge (tgt := 16) hx dX3_has_9 (by decide) (fun h9 => ?_) (fun h9 => ?_)
    · skip
      refine z_iconst hx (v := nI 0) dX3_has_16 (by decide +kernel) ?_
      exact rz _ _ _ _ rfl (Or.inl rfl) ⟨_, rfl, ⟨Or.inr ⟨by first | exact Or.inl h1 | exact Or.inr h9, rfl⟩, rfl⟩⟩ dX3_has_17
    · skip
      refine z_iconst hx (v := nI 1) dX3_has_12 (by decide +kernel) ?_
      refine z_goto (tgt := 17) hx dX3_has_13 (by decide) ?_
      exact rz _ _ _ _ rfl (Or.inr rfl) ⟨_, rfl, ⟨Or.inl (by obtain ⟨j, hj, e⟩ := zix (by omega) h1 h9; exact ⟨j, hj, e, rfl⟩), rfl⟩⟩ dX3_has_17
set_option maxHeartbeats 4000000 in
set_option maxRecDepth 100000 in
theorem k_X3_hasUnknown {E : zE} (hI : zI E) (M : zM) {a w : Nat} (ha : zRoom a) (hw : M.1 a 0 = nI w) (h4 : w ≤ 4) (t : Int32) (d : Bool) : zK E yX3_hasUnknown (.code yX3_hasUnknown cX3_hasUnknown 3 (some .boolean)) (zrm 1 21) [.ref (E.2.2.2 a), .int t, .int (zdr d)] M (zpi (fun v M2 => ((∃ j : Nat, j < zunk w d ∧ t = nI j ∧ v = nI 1) ∨ ((t < 0 ∨ nI (zunk w d) ≤ t) ∧ v = nI 0)) ∧ M2 = M)) := by
  refine zK_of hI (by decide) (Nat.le_of_ble_eq_true rfl) (fun x hx ri rz rl rv => ?_)
  show zJ E x 0 [(0, .ref (E.2.2.2 a)), (1, .int t), (2, .int (zdr d))] [] M
  refine z_iload_n hx 1 dX3_hasUnknown_0 rfl rfl ?_
  refine z_if_lt (tgt := 17) hx dX3_hasUnknown_1 (by decide) (fun h1 => ?_) (fun h1 => ?_)
  · skip
    refine z_iconst hx (v := nI 0) dX3_hasUnknown_17 (by decide +kernel) ?_
    exact rz _ _ _ _ rfl (Or.inl rfl) ⟨_, rfl, ⟨Or.inr ⟨by first | exact Or.inl h1 | exact Or.inr h10, rfl⟩, rfl⟩⟩ dX3_hasUnknown_18
  · skip
    refine z_iload_n hx 1 dX3_hasUnknown_4 rfl rfl ?_
    refine z_aload_n hx 0 dX3_hasUnknown_5 rfl rfl ?_
    refine z_iload_n hx 2 dX3_hasUnknown_6 rfl rfl ?_
    refine z_callV hx (As := [.int (zdr d)]) (st := [.int t]) (k_X3_unknowns hI M ha hw d) zw_368 zy_X3_unknowns ⟨rfl, rfl⟩ (by decide) (zOB_room ha E) rfl rfl rfl rfl (Nat.le_of_ble_eq_true rfl) dX3_hasUnknown_7 ?_
    rintro _ M7 ⟨v7, rfl, q7⟩
    obtain ⟨rfl, rfl⟩ := q7
    show zJ E x 10 _ [.int (nI (zunk w d)), .int t] _
    refine z_icmp_ge (tgt := 17) hx dX3_hasUnknown_10 (by decide) (fun h10 => ?_) (fun h10 => ?_)
    · skip
      refine z_iconst hx (v := nI 0) dX3_hasUnknown_17 (by decide +kernel) ?_
      exact rz _ _ _ _ rfl (Or.inl rfl) ⟨_, rfl, ⟨Or.inr ⟨by first | exact Or.inl h1 | exact Or.inr h10, rfl⟩, rfl⟩⟩ dX3_hasUnknown_18
    · skip
      refine z_iconst hx (v := nI 1) dX3_hasUnknown_13 (by decide +kernel) ?_
      refine z_goto (tgt := 18) hx dX3_hasUnknown_14 (by decide) ?_
      exact rz _ _ _ _ rfl (Or.inr rfl) ⟨_, rfl, ⟨Or.inl (by obtain ⟨j, hj, e⟩ := zix (by have := zunk_le h4 d; omega) h1 h10; exact ⟨j, hj, e, rfl⟩), rfl⟩⟩ dX3_hasUnknown_18
set_option maxHeartbeats 4000000 in
set_option maxRecDepth 100000 in
theorem k_X3_append {E : zE} (hI : zI E) (M : zM) {a n : Nat} (ha : zRoom a) (hn : M.1 a 2 = nI n) (h8 : n < 8) (c r : Int32) : zK E yX3_append (.code yX3_append cX3_append 3 none) (zrm 0 0) [.ref (E.2.2.2 a), .int c, .int r] M (zpv (fun M2 => M2 = zputI (zputI (zputI M (a + 1) n c) (a + 2) n r) a 2 (nI (n + 1)))) := by
  refine zK_of hI (by decide) (Nat.le_of_ble_eq_true rfl) (fun x hx ri rz rl rv => ?_)
  show zJ E x 0 [(0, .ref (E.2.2.2 a)), (1, .int c), (2, .int r)] [] M
  refine z_aload_n hx 0 dX3_append_0 rfl rfl ?_
  refine zg_X3_2 hx ha zw_84 dX3_append_1 ?_
  refine z_eqi hn ?_
  refine z_bipush hx (v := nI 8) dX3_append_4 (by decide +kernel) ?_
  refine z_icmp_ge_n (tgt := 39) hx (by omega) (by omega) dX3_append_6 (by decide) (fun h6 => ?_) (fun h6 => ?_)
  · skip
    omega
  · skip
    refine z_aload_n hx 0 dX3_append_9 rfl rfl ?_
    refine zg_X3_3 hx ha zw_88 dX3_append_10 ?_
    refine z_aload_n hx 0 dX3_append_13 rfl rfl ?_
    refine zg_X3_2 hx ha zw_84 dX3_append_14 ?_
    refine z_eqi hn ?_
    refine z_iload_n hx 1 dX3_append_17 rfl rfl ?_
    refine z_iast_n hx (zIA_codes ha E) (by omega) dX3_append_18 ?_
    refine z_aload_n hx 0 dX3_append_19 rfl rfl ?_
    refine zg_X3_4 hx ha zw_90 dX3_append_20 ?_
    refine z_aload_n hx 0 dX3_append_23 rfl rfl ?_
    refine zg_X3_2 hx ha zw_84 dX3_append_24 ?_
    refine z_eqi (zskI (by omega) hn) ?_
    refine z_iload_n hx 2 dX3_append_27 rfl rfl ?_
    refine z_iast_n hx (zIA_reads ha E) (by omega) dX3_append_28 ?_
    refine z_aload_n hx 0 dX3_append_29 rfl rfl ?_
    refine z_dup hx dX3_append_30 rfl ?_
    refine zg_X3_2 hx ha zw_84 dX3_append_31 ?_
    refine z_eqi (zskI (by omega) (zskI (by omega) hn)) ?_
    refine z_iconst hx (v := nI 1) dX3_append_34 (by decide +kernel) ?_
    refine z_iadd_n hx dX3_append_35 ?_
    refine zp_X3_2 hx ha zw_84 dX3_append_36 ?_
    exact rv _ _ _ rfl ⟨rfl, rfl⟩ dX3_append_39
set_option maxHeartbeats 4000000 in
set_option maxRecDepth 100000 in
theorem k_X3_exchange {E : zE} (hI : zI E) (M : zM) {a i j : Nat} (ha : zRoom a) (hi : i < 8) (hj : j < 8) (hij : ¬ i = j) : zK E yX3_exchange (.code yX3_exchange cX3_exchange 5 none) (zrm 0 0) [.ref (E.2.2.2 a), .int (nI i), .int (nI j)] M (zpv (fun M2 => M2 = zputI (zputI (zputI (zputI M (a + 1) i (M.1 (a + 1) j)) (a + 2) i (M.1 (a + 2) j)) (a + 1) j (M.1 (a + 1) i)) (a + 2) j (M.1 (a + 2) i))) := by
  refine zK_of hI (by decide) (Nat.le_of_ble_eq_true rfl) (fun x hx ri rz rl rv => ?_)
  show zJ E x 0 [(0, .ref (E.2.2.2 a)), (1, .int (nI i)), (2, .int (nI j))] [] M
  refine z_aload_n hx 0 dX3_exchange_0 rfl rfl ?_
  refine zg_X3_3 hx ha zw_88 dX3_exchange_1 ?_
  refine z_iload_n hx 1 dX3_exchange_4 rfl rfl ?_
  refine z_iald_n hx (zIA_codes ha E) (by omega) dX3_exchange_5 ?_
  refine z_istore_n hx (lv2 := [(3, .int (M.1 (a + 1) i)), (0, .ref (E.2.2.2 a)), (1, .int (nI i)), (2, .int (nI j))]) dX3_exchange_6 rfl (by decide) rfl ?_
  refine z_aload_n hx 1 dX3_exchange_7 rfl rfl ?_
  refine zg_X3_4 hx ha zw_90 dX3_exchange_8 ?_
  refine z_iload_n hx 2 dX3_exchange_11 rfl rfl ?_
  refine z_iald_n hx (zIA_reads ha E) (by omega) dX3_exchange_12 ?_
  refine z_istore hx (lv2 := [(4, .int (M.1 (a + 2) i)), (3, .int (M.1 (a + 1) i)), (0, .ref (E.2.2.2 a)), (1, .int (nI i)), (2, .int (nI j))]) dX3_exchange_13 (by decide) rfl ?_
  refine z_aload_n hx 2 dX3_exchange_15 rfl rfl ?_
  refine zg_X3_3 hx ha zw_88 dX3_exchange_16 ?_
  refine z_iload_n hx 3 dX3_exchange_19 rfl rfl ?_
  refine z_aload_n hx 2 dX3_exchange_20 rfl rfl ?_
  refine zg_X3_3 hx ha zw_88 dX3_exchange_21 ?_
  refine z_iload_n hx 4 dX3_exchange_24 rfl rfl ?_
  refine z_iald_n hx (zIA_codes ha E) (by omega) dX3_exchange_25 ?_
  refine z_iast_n hx (zIA_codes ha E) (by omega) dX3_exchange_26 ?_
  refine z_aload_n hx 2 dX3_exchange_27 rfl rfl ?_
  refine zg_X3_4 hx ha zw_90 dX3_exchange_28 ?_
  refine z_iload_n hx 3 dX3_exchange_31 rfl rfl ?_
  refine z_aload_n hx 2 dX3_exchange_32 rfl rfl ?_
  refine zg_X3_4 hx ha zw_90 dX3_exchange_33 ?_
  refine z_iload_n hx 4 dX3_exchange_36 rfl rfl ?_
  refine z_iald_n hx (zIA_reads ha E) (by omega) dX3_exchange_37 ?_
  refine z_eqi (zskI (by omega) rfl) ?_
  refine z_iast_n hx (zIA_reads ha E) (by omega) dX3_exchange_38 ?_
  refine z_aload_n hx 2 dX3_exchange_39 rfl rfl ?_
  refine zg_X3_3 hx ha zw_88 dX3_exchange_40 ?_
  refine z_iload_n hx 4 dX3_exchange_43 rfl rfl ?_
  refine z_iload_n hx 1 dX3_exchange_44 rfl rfl ?_
  refine z_iast_n hx (zIA_codes ha E) (by omega) dX3_exchange_45 ?_
  refine z_aload_n hx 2 dX3_exchange_46 rfl rfl ?_
  refine zg_X3_4 hx ha zw_90 dX3_exchange_47 ?_
  refine z_iload_n hx 4 dX3_exchange_50 rfl rfl ?_
  refine z_iload hx 0 dX3_exchange_51 rfl ?_
  refine z_iast_n hx (zIA_reads ha E) (by omega) dX3_exchange_53 ?_
  exact rv _ _ _ rfl ⟨rfl, rfl⟩ dX3_exchange_54
set_option maxHeartbeats 4000000 in
set_option maxRecDepth 100000 in
theorem k_X3_copy {E : zE} (hI : zI E) (M : zM) {a b : Nat} (ha : zRoom a) (hb : zRoom b) (hab : ¬ a = b) : zK E yX3_copy (.code yX3_copy cX3_copy 2 none) (zrm 1 26) [.ref (E.2.2.2 a), .ref (E.2.2.2 b)] M (zpv (fun M2 => (∀ k, k < 3 → M2.1 a k = M.1 b k) ∧ (∀ k, k < 8 → M2.1 (a + 1) k = M.1 (b + 1) k ∧ M2.1 (a + 2) k = M.1 (b + 2) k) ∧ zfr (fun c => a ≤ c ∧ c ≤ a + 2) M M2)) := by
  refine zK_of hI (by decide) (Nat.le_of_ble_eq_true rfl) (fun x hx ri rz rl rv => ?_)
  show zJ E x 0 [(0, .ref (E.2.2.2 a)), (1, .ref (E.2.2.2 b))] [] M
  have d1 : ¬ b + 1 = a + 1 := by omega
  have d2 := zRoom_apart ha hb hab
  refine z_aload_n hx 0 dX3_copy_0 rfl rfl ?_
  refine z_aload_n hx 1 dX3_copy_1 rfl rfl ?_
  refine zg_X3_0 hx hb zw_79 dX3_copy_2 ?_
  refine zp_X3_0 hx ha zw_79 dX3_copy_5 ?_
  refine z_aload_n hx 0 dX3_copy_8 rfl rfl ?_
  refine z_aload_n hx 1 dX3_copy_9 rfl rfl ?_
  refine zg_X3_1 hx hb zw_82 dX3_copy_10 ?_
  refine z_eqi (zskI (by omega) rfl) ?_
  refine zp_X3_1 hx ha zw_82 dX3_copy_13 ?_
  refine z_aload_n hx 0 dX3_copy_16 rfl rfl ?_
  refine z_aload_n hx 1 dX3_copy_17 rfl rfl ?_
  refine zg_X3_2 hx hb zw_84 dX3_copy_18 ?_
  refine z_eqi (zskI (by omega) (zskI (by omega) rfl)) ?_
  refine zp_X3_2 hx ha zw_84 dX3_copy_21 ?_
  refine z_aload_n hx 1 dX3_copy_24 rfl rfl ?_
  refine zg_X3_3 hx hb zw_88 dX3_copy_25 ?_
  refine z_iconst hx (v := nI 0) dX3_copy_28 (by decide +kernel) ?_
  refine z_aload_n hx 0 dX3_copy_29 rfl rfl ?_
  refine zg_X3_3 hx ha zw_88 dX3_copy_30 ?_
  refine z_iconst hx (v := nI 0) dX3_copy_33 (by decide +kernel) ?_
  refine z_bipush hx (v := nI 8) dX3_copy_34 (by decide +kernel) ?_
  refine z_copyi hx (c0 := b + 1) (c1 := a + 1) (zIA_codes hb E).1 (zIA_codes ha E).1 ((zIA_codes hb E).2.2 _ _) (fun g => (zIA_codes ha E).2.2 g _) zw_306 (by decide +kernel) (by decide +kernel) (by decide +kernel) (by decide +kernel) (by decide +kernel) (by decide) (by decide) dX3_copy_36 ?_
  refine z_aload_n hx 1 dX3_copy_39 rfl rfl ?_
  refine zg_X3_4 hx hb zw_90 dX3_copy_40 ?_
  refine z_iconst hx (v := nI 0) dX3_copy_43 (by decide +kernel) ?_
  refine z_aload_n hx 0 dX3_copy_44 rfl rfl ?_
  refine zg_X3_4 hx ha zw_90 dX3_copy_45 ?_
  refine z_iconst hx (v := nI 0) dX3_copy_48 (by decide +kernel) ?_
  refine z_bipush hx (v := nI 8) dX3_copy_49 (by decide +kernel) ?_
  refine z_copyi hx (c0 := b + 2) (c1 := a + 2) (zIA_reads hb E).1 (zIA_reads ha E).1 ((zIA_reads hb E).2.2 _ _) (fun g => (zIA_reads ha E).2.2 g _) zw_306 (by decide +kernel) (by decide +kernel) (by decide +kernel) (by decide +kernel) (by decide +kernel) (by decide) (by decide) dX3_copy_51 ?_
  exact rv _ _ _ rfl ⟨rfl, (by
      have e1 : ¬ b + 1 = a := by omega
      have e2 : ¬ b + 2 = a := by omega
      have e3 : ¬ b + 2 = a + 1 := by omega
      have c0 : (nI 0).toNatClampNeg = 0 := nI_clamp (by decide)
      have c8 : (nI 8).toNatClampNeg = 8 := nI_clamp (by decide)
      refine ⟨fun k hk => ?_, fun k hk => ⟨?_, ?_⟩, fun c hc => ⟨?_, rfl⟩⟩
      · rcases (show k = 0 ∨ k = 1 ∨ k = 2 by omega) with rfl | rfl | rfl <;> simp [zg_setI, zg_putI]
      · simp [zg_setI, zg_putI, va_cpy, c0, c8, hk, e1, e2, e3]
      · simp [zg_setI, zg_putI, va_cpy, c0, c8, hk, e1, e2, e3]
      · have g1 : ¬ c = a := fun z => hc (by omega)
        have g2 : ¬ c = a + 1 := fun z => hc (by omega)
        have g3 : ¬ c = a + 2 := fun z => hc (by omega)
        funext k
        simp [zg_setI, zg_putI, g1, g2, g3])⟩ dX3_copy_54
set_option maxHeartbeats 4000000 in
set_option maxRecDepth 100000 in
theorem k_X3_remove {E : zE} (hI : zI E) (M : zM) {a n j : Nat} (ha : zRoom a) (hn : M.1 a 2 = nI n) (h8 : n ≤ 8) (hj : j < n) : zK E yX3_remove (.code yX3_remove cX3_remove 3 none) (zrm 0 0) [.ref (E.2.2.2 a), .int (nI j)] M (zpv (fun M2 => M2 = zputI (zsetI (zsetI M (a + 1) (zshf (M.1 (a + 1)) j (n - 1))) (a + 2) (zshf (M.1 (a + 2)) j (n - 1))) a 2 (nI (n - 1)))) := by
  refine zK_of hI (by decide) (Nat.le_of_ble_eq_true rfl) (fun x hx ri rz rl rv => ?_)
  show zJ E x 0 [(0, .ref (E.2.2.2 a)), (1, .int (nI j))] [] M
  refine z_iload_n hx 1 dX3_remove_0 rfl rfl ?_
  refine z_istore_n hx (lv2 := [(2, .int (nI j)), (0, .ref (E.2.2.2 a)), (1, .int (nI j))]) dX3_remove_1 rfl (by decide) rfl ?_
  have loop2 : ∀ (fuel : Nat) (t : Nat) (_ : j ≤ t) (_ : t < n), n - t < fuel → zJ E x 2 [(2, .int (nI t)), (0, .ref (E.2.2.2 a)), (1, .int (nI j))] [] (zsetI (zsetI M (a + 1) (zshf (M.1 (a + 1)) j t)) (a + 2) (zshf (M.1 (a + 2)) j t)) := by
    intro fuel
    induction fuel with
    | zero =>
      intros; omega
    | succ fuel ih =>
      intro t h1 h2 hfuel
      refine z_iload_n hx 0 dX3_remove_2 rfl rfl ?_
      refine z_iconst hx (v := nI 1) dX3_remove_3 (by decide +kernel) ?_
      refine z_iadd_n hx dX3_remove_4 ?_
      refine z_aload_n hx 1 dX3_remove_5 rfl rfl ?_
      refine zg_X3_2 hx ha zw_84 dX3_remove_6 ?_
      refine z_eqi (zskSI (by omega) (zskSI (by omega) hn)) ?_
      refine z_icmp_ge_n (tgt := 46) hx (by omega) (by omega) dX3_remove_9 (by decide) (fun h9 => ?_) (fun h9 => ?_)
      · skip
        obtain rfl : t = n - 1 := by omega
        refine z_aload_n hx 1 dX3_remove_46 rfl rfl ?_
        refine z_dup hx dX3_remove_47 rfl ?_
        refine zg_X3_2 hx ha zw_84 dX3_remove_48 ?_
        refine z_eqi (zskSI (by omega) (zskSI (by omega) hn)) ?_
        refine z_iconst hx (v := nI 1) dX3_remove_51 (by decide +kernel) ?_
        refine z_isub_n hx (by omega) dX3_remove_52 ?_
        refine zp_X3_2 hx ha zw_84 dX3_remove_53 ?_
        exact rv _ _ _ rfl ⟨rfl, rfl⟩ dX3_remove_56
      · skip
        refine z_aload_n hx 1 dX3_remove_12 rfl rfl ?_
        refine zg_X3_3 hx ha zw_88 dX3_remove_13 ?_
        refine z_iload_n hx 0 dX3_remove_16 rfl rfl ?_
        refine z_aload_n hx 1 dX3_remove_17 rfl rfl ?_
        refine zg_X3_3 hx ha zw_88 dX3_remove_18 ?_
        refine z_iload_n hx 0 dX3_remove_21 rfl rfl ?_
        refine z_iconst hx (v := nI 1) dX3_remove_22 (by decide +kernel) ?_
        refine z_iadd_n hx dX3_remove_23 ?_
        refine z_iald_n hx (zIA_codes ha E) (by omega) dX3_remove_24 ?_
        refine z_eqi (zskSI (by omega) zhtSI) ?_
        refine z_iast_n hx (zIA_codes ha E) (by omega) dX3_remove_25 ?_
        refine z_aload_n hx 1 dX3_remove_26 rfl rfl ?_
        refine zg_X3_4 hx ha zw_90 dX3_remove_27 ?_
        refine z_iload_n hx 0 dX3_remove_30 rfl rfl ?_
        refine z_aload_n hx 1 dX3_remove_31 rfl rfl ?_
        refine zg_X3_4 hx ha zw_90 dX3_remove_32 ?_
        refine z_iload_n hx 0 dX3_remove_35 rfl rfl ?_
        refine z_iconst hx (v := nI 1) dX3_remove_36 (by decide +kernel) ?_
        refine z_iadd_n hx dX3_remove_37 ?_
        refine z_iald_n hx (zIA_reads ha E) (by omega) dX3_remove_38 ?_
        refine z_eqi (zskI (by omega) zhtSI) ?_
        refine z_iast_n hx (zIA_reads ha E) (by omega) dX3_remove_39 ?_
        refine z_iinc hx (w := nI (t + 1)) (lv2 := [(2, .int (nI (t + 1))), (0, .ref (E.2.2.2 a)), (1, .int (nI j))]) 0 dX3_remove_40 rfl (z_inc _) (by decide) rfl ?_
        refine z_goto (tgt := 2) hx dX3_remove_43 (by decide) ?_
        exact z_to (ih (t + 1) (by omega) (by omega) (by omega)) [0, 1, 2] rfl (by rw [zps2 (by omega), zshf_s _ h1, zshf_s _ h1])
  exact z_to (loop2 _ j (Nat.le_refl _) hj (Nat.lt_succ_self _)) [0, 1, 2] rfl (by rw [zshf_0, zshf_0, zsetI_self, zsetI_self])
set_option maxHeartbeats 4000000 in
set_option maxRecDepth 100000 in
theorem k_X3_layOut {E : zE} (hI : zI E) (M : zM) {a w mm c t ln : Nat} {r : Int} (ha : zRoom a) (hln : zJA E ln 6) (hl46 : ln < 46) (hw : M.1 a 0 = nI w) (h1 : 1 ≤ w) (h4 : w ≤ 4) (hm : M.1 a 1 = nI mm) (ht : t < 8) (hc : M.1 (a + 1) t = nI c) (hc5 : c < 100000) (hr : M.1 (a + 2) t = Int32.ofInt r) (hr1 : -1000 ≤ r) (hr2 : r ≤ 1000) (hmm : mm ≤ 99) (hcw : zcode w c) (d : Bool) : zK E yX3_layOut (.code yX3_layOut cX3_layOut 6 none) (zrm 1 21) [.ref (E.2.2.2 a), .int (nI t), .int (zdr d), .ref (E.2.2.2 ln)] M (zpv (fun M2 => M2 = zsetJ M ln (fun i => if i ≤ zunk w d then Int64.ofInt (zLn w mm d c r t i) else M.2 ln i))) := by
  refine zK_of hI (by decide) (Nat.le_of_ble_eq_true rfl) (fun x hx ri rz rl rv => ?_)
  show zJ E x 0 [(0, .ref (E.2.2.2 a)), (1, .int (nI t)), (2, .int (zdr d)), (3, .ref (E.2.2.2 ln))] [] M
  have hge := zRoom_ge ha
  refine z_aload_n hx 0 dX3_layOut_0 rfl rfl ?_
  refine zg_X3_3 hx ha zw_88 dX3_layOut_1 ?_
  refine z_iload_n hx 1 dX3_layOut_4 rfl rfl ?_
  refine z_iald_n hx (zIA_codes ha E) (by omega) dX3_layOut_5 ?_
  refine z_eqi hc ?_
  refine z_istore hx (lv2 := [(4, .int (nI c)), (0, .ref (E.2.2.2 a)), (1, .int (nI t)), (2, .int (zdr d)), (3, .ref (E.2.2.2 ln))]) dX3_layOut_6 (by decide) rfl ?_
  refine z_aload_n hx 1 dX3_layOut_8 rfl rfl ?_
  refine zg_X3_0 hx ha zw_79 dX3_layOut_9 ?_
  refine z_eqi hw ?_
  refine z_iconst hx (v := nI 1) dX3_layOut_12 (by decide +kernel) ?_
  refine z_isub_n hx (by omega) dX3_layOut_13 ?_
  refine z_istore hx (lv2 := [(5, .int (nI (w - 1))), (4, .int (nI c)), (0, .ref (E.2.2.2 a)), (1, .int (nI t)), (2, .int (zdr d)), (3, .ref (E.2.2.2 ln))]) dX3_layOut_14 (by decide) rfl ?_
  have loop16 : ∀ (fuel : Nat) (i l : Nat) (_ : i ≤ w) (_ : l = c / 10 ^ (w - i)), i < fuel → zJ E x 16 [(5, .int (zdn i)), (4, .int (nI l)), (0, .ref (E.2.2.2 a)), (1, .int (nI t)), (2, .int (zdr d)), (3, .ref (E.2.2.2 ln))] [] (zsetJ M ln (zlo (M.2 ln) w c i)) := by
    intro fuel
    induction fuel with
    | zero =>
      intros; omega
    | succ fuel ih =>
      intro i l hi hl hfuel
      have hl5 : l < 100000 := by rw [hl]; exact Nat.lt_of_le_of_lt (Nat.div_le_self _ _) hc5
      rcases i with _ | i
      · skip
        show zJ E x 16 [(5, .int (-1)), (4, .int (nI l)), (0, .ref (E.2.2.2 a)), (1, .int (nI t)), (2, .int (zdr d)), (3, .ref (E.2.2.2 ln))] [] _
        refine z_iload hx 0 dX3_layOut_16 rfl ?_
        refine z_if_lt (tgt := 47) hx dX3_layOut_18 (by decide) (fun h18 => ?_) (fun h18 => ?_)
        · skip
          refine z_iload_n hx 4 dX3_layOut_47 rfl rfl ?_
          refine z_if_eq_d (tgt := 59) hx dX3_layOut_48 (by decide) (fun h48 => ?_) (fun h48 => ?_)
          · skip
            refine z_aload_n hx 5 dX3_layOut_59 rfl rfl ?_
            refine z_aload_n hx 2 dX3_layOut_60 rfl rfl ?_
            refine z_iload_n hx 4 dX3_layOut_61 rfl rfl ?_
            refine z_callV hx (As := [.int (zdr d)]) (st := [.ref (E.2.2.2 ln)]) (k_X3_unknowns hI (zsetJ M ln (zlo (M.2 ln) w c 0)) ha (zskSJI hw) d) zw_368 zy_X3_unknowns ⟨rfl, rfl⟩ (by decide) (zOB_room ha E) rfl rfl rfl rfl (Nat.le_of_ble_eq_true rfl) dX3_layOut_62 ?_
            rintro _ M62 ⟨v62, rfl, q62⟩
            obtain ⟨rfl, rfl⟩ := q62
            show zJ E x 65 _ [.int (nI (zunk w d)), .ref (E.2.2.2 ln)] _
            refine z_aload_n hx 2 dX3_layOut_65 rfl rfl ?_
            refine zg_X3_4 hx ha zw_90 dX3_layOut_66 ?_
            refine z_iload_n hx 3 dX3_layOut_69 rfl rfl ?_
            refine z_iald_n hx (zIA_reads ha E) (by omega) dX3_layOut_70 ?_
            refine z_eqi (zskSJI hr) ?_
            refine z_iload hx 1 dX3_layOut_71 rfl ?_
            refine z_callS hx (As := [.int (nI l)]) (st := [.int (Int32.ofInt r), .int (nI (zunk w d)), .ref (E.2.2.2 ln)]) (k_X3_signOf hI (zsetJ M ln (zlo (M.2 ln) w c 0)) l (by omega)) zw_365 zy_X3_signOf ⟨rfl, rfl⟩ (by decide) rfl rfl (Nat.le_of_ble_eq_true rfl) dX3_layOut_73 ?_
            rintro _ M73 ⟨v73, rfl, q73⟩
            obtain ⟨rfl, rfl⟩ := q73
            show zJ E x 76 _ [.int (Int32.ofInt (zsgd l)), .int (Int32.ofInt r), .int (nI (zunk w d)), .ref (E.2.2.2 ln)] _
            refine z_aload_n hx 2 dX3_layOut_76 rfl rfl ?_
            refine zg_X3_1 hx ha zw_82 dX3_layOut_77 ?_
            refine z_eqi (zskSJI hm) ?_
            refine z_imul hx dX3_layOut_80 ?_
            refine z_isub hx dX3_layOut_81 ?_
            refine z_i2l hx dX3_layOut_82 ?_
            refine z_last_n hx hln (by have := zunk_le h4 d; omega) dX3_layOut_83 ?_
            exact rv _ _ _ rfl ⟨rfl, (by subst hl; exact zlay_f (by assumption) h4 hcw hr1 hr2 hmm)⟩ dX3_layOut_84
          · skip
            refine z_aload_n hx 5 dX3_layOut_51 rfl rfl ?_
            refine z_aload_n hx 2 dX3_layOut_52 rfl rfl ?_
            refine zg_X3_0 hx ha zw_79 dX3_layOut_53 ?_
            refine z_eqi (zskSJI hw) ?_
            refine z_iload_n hx 3 dX3_layOut_56 rfl rfl ?_
            refine z_i2l hx dX3_layOut_57 ?_
            refine z_last_n hx hln (by omega) dX3_layOut_58 ?_
            refine z_aload_n hx 5 dX3_layOut_59 rfl rfl ?_
            refine z_aload_n hx 2 dX3_layOut_60 rfl rfl ?_
            refine z_iload_n hx 4 dX3_layOut_61 rfl rfl ?_
            refine z_callV hx (As := [.int (zdr d)]) (st := [.ref (E.2.2.2 ln)]) (k_X3_unknowns hI (zputJ (zsetJ M ln (zlo (M.2 ln) w c 0)) ln w ((nI t).toInt64)) ha (zskJI (zskSJI hw)) d) zw_368 zy_X3_unknowns ⟨rfl, rfl⟩ (by decide) (zOB_room ha E) rfl rfl rfl rfl (Nat.le_of_ble_eq_true rfl) dX3_layOut_62 ?_
            rintro _ M62 ⟨v62, rfl, q62⟩
            obtain ⟨rfl, rfl⟩ := q62
            show zJ E x 65 _ [.int (nI (zunk w d)), .ref (E.2.2.2 ln)] _
            refine z_aload_n hx 2 dX3_layOut_65 rfl rfl ?_
            refine zg_X3_4 hx ha zw_90 dX3_layOut_66 ?_
            refine z_iload_n hx 3 dX3_layOut_69 rfl rfl ?_
            refine z_iald_n hx (zIA_reads ha E) (by omega) dX3_layOut_70 ?_
            refine z_eqi (zskJI (zskSJI hr)) ?_
            refine z_iload hx 1 dX3_layOut_71 rfl ?_
            refine z_callS hx (As := [.int (nI l)]) (st := [.int (Int32.ofInt r), .int (nI (zunk w d)), .ref (E.2.2.2 ln)]) (k_X3_signOf hI (zputJ (zsetJ M ln (zlo (M.2 ln) w c 0)) ln w ((nI t).toInt64)) l (by omega)) zw_365 zy_X3_signOf ⟨rfl, rfl⟩ (by decide) rfl rfl (Nat.le_of_ble_eq_true rfl) dX3_layOut_73 ?_
            rintro _ M73 ⟨v73, rfl, q73⟩
            obtain ⟨rfl, rfl⟩ := q73
            show zJ E x 76 _ [.int (Int32.ofInt (zsgd l)), .int (Int32.ofInt r), .int (nI (zunk w d)), .ref (E.2.2.2 ln)] _
            refine z_aload_n hx 2 dX3_layOut_76 rfl rfl ?_
            refine zg_X3_1 hx ha zw_82 dX3_layOut_77 ?_
            refine z_eqi (zskJI (zskSJI hm)) ?_
            refine z_imul hx dX3_layOut_80 ?_
            refine z_isub hx dX3_layOut_81 ?_
            refine z_i2l hx dX3_layOut_82 ?_
            refine z_last_n hx hln (by have := zunk_le h4 d; omega) dX3_layOut_83 ?_
            exact rv _ _ _ rfl ⟨rfl, (by subst hl; exact zlay_t (by assumption) h4 hcw hr1 hr2 hmm ht)⟩ dX3_layOut_84
        · skip
          exact absurd (by decide +kernel) h18
      · skip
        show zJ E x 16 [(5, .int (nI i)), (4, .int (nI l)), (0, .ref (E.2.2.2 a)), (1, .int (nI t)), (2, .int (zdr d)), (3, .ref (E.2.2.2 ln))] [] _
        refine z_iload hx 0 dX3_layOut_16 rfl ?_
        refine z_if_lt_n (tgt := 47) hx (by omega) dX3_layOut_18 (by decide) ?_
        refine z_aload_n hx 5 dX3_layOut_21 rfl rfl ?_
        refine z_iload hx 0 dX3_layOut_22 rfl ?_
        refine z_iload hx 1 dX3_layOut_24 rfl ?_
        refine z_bipush hx (v := nI 10) dX3_layOut_26 (by decide +kernel) ?_
        refine z_irem_n hx (by omega) (by omega) (by omega) dX3_layOut_28 ?_
        refine z_callS hx (As := [.int (nI (l % 10))]) (st := [.int (nI i), .ref (E.2.2.2 ln)]) (k_X3_signOf hI (zsetJ M ln (zlo (M.2 ln) w c (i + 1))) (l % 10) (by omega)) zw_365 zy_X3_signOf ⟨rfl, rfl⟩ (by decide) rfl rfl (Nat.le_of_ble_eq_true rfl) dX3_layOut_29 ?_
        rintro _ M29 ⟨v29, rfl, q29⟩
        obtain ⟨rfl, rfl⟩ := q29
        show zJ E x 32 _ [.int (Int32.ofInt (zsgd (l % 10))), .int (nI i), .ref (E.2.2.2 ln)] _
        refine z_i2l hx dX3_layOut_32 ?_
        refine z_last_n hx hln (by omega) dX3_layOut_33 ?_
        refine z_iload hx 1 dX3_layOut_34 rfl ?_
        refine z_bipush hx (v := nI 10) dX3_layOut_36 (by decide +kernel) ?_
        refine z_idiv_n hx (by omega) (by omega) (by omega) dX3_layOut_38 ?_
        refine z_istore hx (lv2 := [(4, .int (nI (l / 10))), (5, .int (nI i)), (0, .ref (E.2.2.2 a)), (1, .int (nI t)), (2, .int (zdr d)), (3, .ref (E.2.2.2 ln))]) dX3_layOut_39 (by decide) rfl ?_
        refine z_iinc hx (w := zdn i) (lv2 := [(5, .int (zdn i)), (4, .int (nI (l / 10))), (0, .ref (E.2.2.2 a)), (1, .int (nI t)), (2, .int (zdr d)), (3, .ref (E.2.2.2 ln))]) 1 dX3_layOut_41 rfl (zdn_dec i) (by decide) rfl ?_
        refine z_goto (tgt := 16) hx dX3_layOut_44 (by decide) ?_
        exact z_to (ih i (l / 10) (by omega) (by rw [hl]; exact zdiv10 hi) (by omega)) [0, 1, 2, 3, 4, 5] rfl (by rw [zputJ_set, hl, zlo_s hi])
  exact z_to (loop16 _ w c (Nat.le_refl _) (by rw [Nat.sub_self, Nat.pow_zero, Nat.div_one]) (Nat.lt_succ_self _)) [0, 1, 2, 3, 4, 5] (by rw [zdn_w h1]; rfl) (by rw [zlo_w, zsetJ_self])
end
section
theorem zI64_add (a b : Int) : Int64.ofInt a + Int64.ofInt b = Int64.ofInt (a + b) := (Int64.ofInt_add a b).symm
theorem zI64_mul (a b : Int) : Int64.ofInt a * Int64.ofInt b = Int64.ofInt (a * b) := (Int64.ofInt_mul a b).symm
theorem zI64_sub (a b : Int) : Int64.ofInt a - Int64.ofInt b = Int64.ofInt (a - b) := (Int64.ofInt_sub a b).symm
theorem zI64_neg (a : Int) : -Int64.ofInt a = Int64.ofInt (-a) := (Int64.ofInt_neg a).symm
theorem zcmp0 {x : Int64} (h : lg_cmp x 0 = 0) : x = 0 := (lg_cmp_eq x 0).mp h
theorem zcmpn0 {x : Int64} (h : ¬ lg_cmp x 0 = 0) : ¬ x = 0 := fun e => h ((lg_cmp_eq x 0).mpr e)
theorem zif_cong {α : Type} {p q : Prop} [Decidable p] [Decidable q] (h : p ↔ q) {a b : α} : (if p then a else b) = if q then a else b := by
  by_cases hp : p
  · rw [if_pos hp, if_pos (h.mp hp)]
  · rw [if_neg hp, if_neg (fun z => hp (h.mpr z))]
theorem zput_next {i c2 u p q : Nat} {f : Nat → Int64} {tm B0 : Int64} (h1 : p ≤ q) (h2 : q ≤ u) (hcc : tm * f i = 0 ∨ u < c2) : (if p < i ∨ p = i ∧ q < c2 then B0 + tm * f p * f q else B0) = if p < i + 1 then B0 + tm * f p * f q else B0 := by
  by_cases e : p = i
  · subst e
    rw [if_pos (Nat.lt_succ_self _)]
    rcases hcc with h | h
    · rw [h, Int64.zero_mul, Int64.add_zero, ite_self]
    · rw [if_pos (by omega)]
  · exact zif_cong (by omega)
theorem zput_one {i c2 p q : Nat} {M : zM} {f : Nat → Int64} {tm : Int64} : (if 15 + 1 * p = 15 + 1 * i ∧ q = c2 then M.2 (15 + 1 * i) c2 + tm * f i * f c2 else if p < i ∨ p = i ∧ q < c2 then M.2 (15 + 1 * p) q + tm * f p * f q else M.2 (15 + 1 * p) q) = if p < i ∨ p = i ∧ q < c2 + 1 then M.2 (15 + 1 * p) q + tm * f p * f q else M.2 (15 + 1 * p) q := by
  by_cases e : 15 + 1 * p = 15 + 1 * i ∧ q = c2
  · obtain ⟨e1, rfl⟩ := e
    obtain rfl : p = i := by omega
    rw [if_pos ⟨rfl, rfl⟩, if_pos (by omega)]
  · rw [if_neg e]
    exact zif_cong (by omega)
set_option maxHeartbeats 4000000 in
set_option maxRecDepth 100000 in
theorem k_X1_put {E : zE} (hI : zI E) (M : zM) {a w mm c t : Nat} {r : Int} (ha : zRoom a) (hw : M.1 a 0 = nI w) (h1 : 1 ≤ w) (h4 : w ≤ 4) (hm : M.1 a 1 = nI mm) (hmm : mm ≤ 99) (ht : t < 8) (hc : M.1 (a + 1) t = nI c) (hc5 : c < 100000) (hr : M.1 (a + 2) t = Int32.ofInt r) (hr1 : -1000 ≤ r) (hr2 : r ≤ 1000) (hcw : zcode w c) (d : Bool) (h73 : M.1 7 3 = zdr d) (h75 : M.1 7 5 = nI (zunk w d)) (tm : Int32) : zK E yX1_put (.code yX1_put cX1_put 8 none) (zrm 2 46) [.ref (E.2.2.2 7), .ref (E.2.2.2 a), .int (nI t), .int tm] M (zpv (fun M2 => (∀ p q, p ≤ q → q ≤ zunk w d → M2.2 (15 + 1 * p) q = M.2 (15 + 1 * p) q + tm.toInt64 * Int64.ofInt (zLn w mm d c r t p) * Int64.ofInt (zLn w mm d c r t q)) ∧ zfr (fun c => c = 10 ∨ 15 ≤ c ∧ c ≤ 20) M M2)) := by
  refine zK_of hI (by decide) (Nat.le_of_ble_eq_true rfl) (fun x hx ri rz rl rv => ?_)
  show zJ E x 0 [(0, .ref (E.2.2.2 7)), (1, .ref (E.2.2.2 a)), (2, .int (nI t)), (3, .int tm)] [] M
  have hu := zunk_le h4 d
  have hge := zRoom_ge ha
  refine z_aload_n hx 1 dX1_put_0 rfl rfl ?_
  refine z_iload_n hx 2 dX1_put_1 rfl rfl ?_
  refine z_aload_n hx 0 dX1_put_2 rfl rfl ?_
  refine zg_X1_3 hx zw_134 dX1_put_3 ?_
  refine z_eqi h73 ?_
  refine z_aload_n hx 0 dX1_put_6 rfl rfl ?_
  refine zg_X1_2 hx zw_133 dX1_put_7 ?_
  refine z_callV hx (As := [.int (nI t), .int (zdr d), .ref (E.2.2.2 10)]) (st := []) (k_X3_layOut hI M ha (zJA_10 E) (by decide) hw h1 h4 hm ht hc hc5 hr hr1 hr2 hmm hcw d) zw_394 zy_X3_layOut ⟨rfl, rfl⟩ (by decide) (zOB_room ha E) rfl rfl rfl rfl (Nat.le_of_ble_eq_true rfl) dX1_put_10 ?_
  rintro _ M10 ⟨rfl, q10⟩
  subst q10
  show zJ E x 13 _ [] _
  refine z_iconst hx (v := nI 0) dX1_put_13 (by decide +kernel) ?_
  refine z_istore hx (lv2 := [(4, .int (nI 0)), (0, .ref (E.2.2.2 7)), (1, .ref (E.2.2.2 a)), (2, .int (nI t)), (3, .int tm)]) dX1_put_14 (by decide) rfl ?_
  have loop16 : ∀ (fuel16 : Nat) (i : Nat) (N : zM) (_ : i ≤ zunk w d + 1) (_ : N.1 7 5 = nI (zunk w d)) (_ : ∀ k, k ≤ zunk w d → N.2 10 k = Int64.ofInt (zLn w mm d c r t k)) (_ : zfr (fun c => c = 10 ∨ 15 ≤ c ∧ c ≤ 20) M N) (_ : ∀ p q, p ≤ q → q ≤ zunk w d → N.2 (15 + 1 * p) q = (if p < i then M.2 (15 + 1 * p) q + tm.toInt64 * Int64.ofInt (zLn w mm d c r t p) * Int64.ofInt (zLn w mm d c r t q) else M.2 (15 + 1 * p) q)), zunk w d + 1 - i < fuel16 → zJ E x 16 [(4, .int (nI i)), (0, .ref (E.2.2.2 7)), (1, .ref (E.2.2.2 a)), (2, .int (nI t)), (3, .int tm)] [] N := by
    intro fuel16
    induction fuel16 with
    | zero =>
      intros; omega
    | succ fuel16 ih16 =>
      intro i N hi hN5 hNl hNf hNs hfuel16
      refine z_iload hx 0 dX1_put_16 rfl ?_
      refine z_aload_n hx 1 dX1_put_18 rfl rfl ?_
      refine zg_X1_5 hx zw_136 dX1_put_19 ?_
      refine z_eqi hN5 ?_
      refine z_icmp_gt_n (tgt := 92) hx (by omega) (by omega) dX1_put_22 (by decide) (fun h22 => ?_) (fun h22 => ?_)
      · skip
        exact rv _ _ _ rfl ⟨rfl, ⟨fun p q h1 h2 => by rw [hNs p q h1 h2, if_pos (by omega)], hNf⟩⟩ dX1_put_92
      · skip
        refine z_iload_n hx 4 dX1_put_25 rfl rfl ?_
        refine z_i2l hx dX1_put_26 ?_
        refine z_aload_n hx 1 dX1_put_27 rfl rfl ?_
        refine zg_X1_2 hx zw_133 dX1_put_28 ?_
        refine z_iload hx 0 dX1_put_31 rfl ?_
        refine z_lald_n hx (zJA_10 E) (by omega) dX1_put_33 ?_
        refine z_eql (hNl i (by omega)) ?_
        refine z_lmul hx dX1_put_34 ?_
        refine z_lstore hx (lv2 := [(5, .long (tm.toInt64 * (Int64.ofInt (zLn w mm d c r t i)))), (4, .int (nI i)), (0, .ref (E.2.2.2 7)), (1, .ref (E.2.2.2 a)), (2, .int (nI t)), (3, .int tm)]) dX1_put_35 (by decide) rfl ?_
        refine z_iload hx 1 dX1_put_37 rfl ?_
        refine z_istore hx (lv2 := [(7, .int (nI i)), (5, .long (tm.toInt64 * (Int64.ofInt (zLn w mm d c r t i)))), (4, .int (nI i)), (0, .ref (E.2.2.2 7)), (1, .ref (E.2.2.2 a)), (2, .int (nI t)), (3, .int tm)]) dX1_put_39 (by decide) rfl ?_
        have loop41 : ∀ (fuel41 : Nat) (c2 : Nat) (N2 : zM) (_ : i ≤ c2) (_ : c2 ≤ zunk w d + 1) (_ : N2.1 7 5 = nI (zunk w d)) (_ : ∀ k, k ≤ zunk w d → N2.2 10 k = Int64.ofInt (zLn w mm d c r t k)) (_ : zfr (fun c => c = 10 ∨ 15 ≤ c ∧ c ≤ 20) M N2) (_ : ∀ p q, p ≤ q → q ≤ zunk w d → N2.2 (15 + 1 * p) q = (if p < i ∨ p = i ∧ q < c2 then M.2 (15 + 1 * p) q + tm.toInt64 * Int64.ofInt (zLn w mm d c r t p) * Int64.ofInt (zLn w mm d c r t q) else M.2 (15 + 1 * p) q)), zunk w d + 1 - c2 < fuel41 → zJ E x 41 [(7, .int (nI c2)), (5, .long (tm.toInt64 * Int64.ofInt (zLn w mm d c r t i))), (4, .int (nI i)), (0, .ref (E.2.2.2 7)), (1, .ref (E.2.2.2 a)), (2, .int (nI t)), (3, .int tm)] [] N2 := by
          intro fuel41
          induction fuel41 with
          | zero =>
            intros; omega
          | succ fuel41 ih41 =>
            intro c2 N2 hic hcu hK5 hKl hKf hKs hfuel41
            refine z_lload hx 1 dX1_put_41 rfl ?_
            refine z_lconst hx (v := 0) dX1_put_43 rfl ?_
            refine z_lcmp hx dX1_put_44 ?_
            refine z_if_eq (tgt := 86) hx dX1_put_45 (by decide) (fun h45 => ?_) (fun h45 => ?_)
            · skip
              have hcc : tm.toInt64 * Int64.ofInt (zLn w mm d c r t i) = 0 ∨ zunk w d < c2 := Or.inl (zcmp0 h45)
              refine z_iinc hx (w := nI (i + 1)) (lv2 := [(4, .int (nI (i + 1))), (7, .int (nI c2)), (5, .long (tm.toInt64 * Int64.ofInt (zLn w mm d c r t i))), (0, .ref (E.2.2.2 7)), (1, .ref (E.2.2.2 a)), (2, .int (nI t)), (3, .int tm)]) 2 dX1_put_86 rfl (z_inc _) (by decide) rfl ?_
              refine z_goto (tgt := 16) hx dX1_put_89 (by decide) ?_
              exact z_to (ih16 (i + 1) N2 (by omega) hK5 hKl hKf (fun p q h1 h2 => by rw [hKs p q h1 h2]; exact zput_next (f := fun k => Int64.ofInt (zLn w mm d c r t k)) h1 h2 hcc) (by omega)) [0, 3, 4, 5, 6] rfl rfl
            · skip
              refine z_iload hx 0 dX1_put_48 rfl ?_
              refine z_aload_n hx 3 dX1_put_50 rfl rfl ?_
              refine zg_X1_5 hx zw_136 dX1_put_51 ?_
              refine z_eqi hK5 ?_
              refine z_icmp_gt_n (tgt := 86) hx (by omega) (by omega) dX1_put_54 (by decide) (fun h54 => ?_) (fun h54 => ?_)
              · skip
                have hcc : tm.toInt64 * Int64.ofInt (zLn w mm d c r t i) = 0 ∨ zunk w d < c2 := Or.inr h54
                refine z_iinc hx (w := nI (i + 1)) (lv2 := [(4, .int (nI (i + 1))), (7, .int (nI c2)), (5, .long (tm.toInt64 * Int64.ofInt (zLn w mm d c r t i))), (0, .ref (E.2.2.2 7)), (1, .ref (E.2.2.2 a)), (2, .int (nI t)), (3, .int tm)]) 2 dX1_put_86 rfl (z_inc _) (by decide) rfl ?_
                refine z_goto (tgt := 16) hx dX1_put_89 (by decide) ?_
                exact z_to (ih16 (i + 1) N2 (by omega) hK5 hKl hKf (fun p q h1 h2 => by rw [hKs p q h1 h2]; exact zput_next (f := fun k => Int64.ofInt (zLn w mm d c r t k)) h1 h2 hcc) (by omega)) [0, 3, 4, 5, 6] rfl rfl
              · skip
                refine z_aload_n hx 3 dX1_put_57 rfl rfl ?_
                refine zg_X1_0 hx zw_131 dX1_put_58 ?_
                refine z_iload hx 2 dX1_put_61 rfl ?_
                refine z_aald_n hx (zRA_8 E) (by omega) dX1_put_63 ?_
                refine z_iload hx 0 dX1_put_64 rfl ?_
                refine z_dup2_11 hx dX1_put_66 rfl rfl ?_
                refine z_lald_n hx (zJA_row (by omega) (by omega) E) (by omega) dX1_put_67 ?_
                refine z_eql (by rw [hKs i c2 hic (by omega), if_neg (by omega)]) ?_
                refine z_lload hx 1 dX1_put_68 rfl ?_
                refine z_aload_n hx 3 dX1_put_70 rfl rfl ?_
                refine zg_X1_2 hx zw_133 dX1_put_71 ?_
                refine z_iload hx 0 dX1_put_74 rfl ?_
                refine z_lald_n hx (zJA_10 E) (by omega) dX1_put_76 ?_
                refine z_eql (hKl c2 (by omega)) ?_
                refine z_lmul hx dX1_put_77 ?_
                refine z_ladd hx dX1_put_78 ?_
                refine z_last_n hx (zJA_row (by omega) (by omega) E) (by omega) dX1_put_79 ?_
                refine z_iinc hx (w := nI (c2 + 1)) (lv2 := [(7, .int (nI (c2 + 1))), (5, .long (tm.toInt64 * Int64.ofInt (zLn w mm d c r t i))), (4, .int (nI i)), (0, .ref (E.2.2.2 7)), (1, .ref (E.2.2.2 a)), (2, .int (nI t)), (3, .int tm)]) 0 dX1_put_80 rfl (z_inc _) (by decide) rfl ?_
                refine z_goto (tgt := 41) hx dX1_put_83 (by decide) ?_
                exact z_to (ih41 (c2 + 1) (zputJ N2 (15 + 1 * i) c2 ((M.2 (15 + 1 * i) c2) + ((tm.toInt64 * Int64.ofInt (zLn w mm d c r t i)) * (Int64.ofInt (zLn w mm d c r t c2))))) (by omega) (by omega) (zskJI hK5) (fun k hk => zskJ (by omega) (hKl k hk)) (zfr_tr hKf (zfr_putJ (Or.inr (by omega)))) (fun p q h1 h2 => by rw [zg_putJ, hKs p q h1 h2]; exact zput_one (f := fun k => Int64.ofInt (zLn w mm d c r t k))) (by omega)) [0, 1, 2, 3, 4, 5, 6] rfl rfl
        exact z_to (loop41 _ i N (Nat.le_refl _) (by omega) hN5 hNl hNf (fun p q h1 h2 => by rw [hNs p q h1 h2]; exact zif_cong (by omega)) (Nat.lt_succ_self _)) [0, 1, 2, 3, 4, 5, 6] rfl rfl
  exact z_to (loop16 _ 0 (zsetJ M 10 (fun i => if i ≤ zunk w d then Int64.ofInt (zLn w mm d c r t i) else M.2 10 i)) (by omega) (zskSJI h75) (fun k hk => by rw [zg_setJ, if_pos rfl, if_pos hk]) (zfr_setJ (Or.inl rfl)) (fun p q h1 h2 => by rw [if_neg (by omega), zg_setJ, if_neg (by omega)]) (Nat.lt_succ_self _)) [0, 1, 2, 3, 4] rfl rfl
theorem k_X1_putR {E : zE} (hI : zI E) (M : zM) {a w n mm t : Nat} {cd : Nat → Nat} {rd : Nat → Int} (ha : zRoom a) (hR : zRm M a w n mm cd rd) (ht : t < n) (d : Bool) (h73 : M.1 7 3 = zdr d) (h75 : M.1 7 5 = nI (zunk w d)) (tm : Int32) : zK E yX1_put (.code yX1_put cX1_put 8 none) (zrm 2 46) [.ref (E.2.2.2 7), .ref (E.2.2.2 a), .int (nI t), .int tm] M (zpv (fun M2 => (∀ p q, p ≤ q → q ≤ zunk w d → M2.2 (15 + 1 * p) q = M.2 (15 + 1 * p) q + tm.toInt64 * Int64.ofInt (zLn w mm d (cd t) (rd t) t p) * Int64.ofInt (zLn w mm d (cd t) (rd t) t q)) ∧ zfr (fun c => c = 10 ∨ 15 ≤ c ∧ c ≤ 20) M M2)) := by
  obtain ⟨q1, q2, q3, q4, q5, q6, q7⟩ := hR
  obtain ⟨r1, r2, r3, r4, r5, r6⟩ := q7 t ht
  exact k_X1_put hI M ha q1 q2.1 q2.2 q3 q4 (by omega) r1 r2 r4 r5 r6 r3 d h73 h75 tm
theorem zgat_fr {a : Nat} (ha : zRoom a) : ¬ (fun c => c = 7 ∨ c = 10 ∨ 15 ≤ c ∧ c ≤ 20) a ∧ ¬ (fun c => c = 7 ∨ c = 10 ∨ 15 ≤ c ∧ c ≤ 20) (a + 1) ∧ ¬ (fun c => c = 7 ∨ c = 10 ∨ 15 ≤ c ∧ c ≤ 20) (a + 2) := by
  have := zRoom_ge ha
  refine ⟨?_, ?_, ?_⟩ <;> (intro h; omega)
theorem zsum_step {w mm : Nat} {d : Bool} {cd : Nat → Nat} {rd : Nat → Int} {t p q : Nat} : Int64.ofInt (zS t (fun t => zLn w mm d (cd t) (rd t) t p * zLn w mm d (cd t) (rd t) t q)) + (nI 1).toInt64 * Int64.ofInt (zLn w mm d (cd t) (rd t) t p) * Int64.ofInt (zLn w mm d (cd t) (rd t) t q) = Int64.ofInt (zS (t + 1) (fun t => zLn w mm d (cd t) (rd t) t p * zLn w mm d (cd t) (rd t) t q)) := by
  rw [show (nI 1).toInt64 = 1 by decide +kernel, Int64.one_mul, zI64_mul, zI64_add]
  rfl
set_option maxHeartbeats 4000000 in
set_option maxRecDepth 100000 in
theorem k_X1_gather {E : zE} (hI : zI E) (M : zM) {a w n mm : Nat} {cd : Nat → Nat} {rd : Nat → Int} (ha : zRoom a) (hR : zRm M a w n mm cd rd) (d : Bool) : zK E yX1_gather (.code yX1_gather cX1_gather 5 none) (zrm 3 73) [.ref (E.2.2.2 7), .ref (E.2.2.2 a), .int (zdr d)] M (zpv (fun M2 => M2.1 7 3 = zdr d ∧ M2.1 7 4 = nI w ∧ M2.1 7 5 = nI (zunk w d) ∧ zfr (fun c => c = 7 ∨ c = 10 ∨ 15 ≤ c ∧ c ≤ 20) M M2 ∧ ∀ p q, p ≤ q → q ≤ zunk w d → M2.2 (15 + 1 * p) q = Int64.ofInt (zS n (fun t => zLn w mm d (cd t) (rd t) t p * zLn w mm d (cd t) (rd t) t q)))) := by
  refine zK_of hI (by decide) (Nat.le_of_ble_eq_true rfl) (fun x hx ri rz rl rv => ?_)
  show zJ E x 0 [(0, .ref (E.2.2.2 7)), (1, .ref (E.2.2.2 a)), (2, .int (zdr d))] [] M
  have hw := hR.1
  have hw4 := hR.2.1
  have hu := zunk_le hw4.2 d
  have hge := zRoom_ge ha
  have hn8 := hR.2.2.2.2.2.1
  refine z_aload_n hx 0 dX1_gather_0 rfl rfl ?_
  refine z_iload_n hx 2 dX1_gather_1 rfl rfl ?_
  refine zp_X1_3 hx (zdr_01 d) zw_134 dX1_gather_2 ?_
  refine z_aload_n hx 0 dX1_gather_5 rfl rfl ?_
  refine z_aload_n hx 1 dX1_gather_6 rfl rfl ?_
  refine zg_X3_0 hx ha zw_80 dX1_gather_7 ?_
  refine z_eqi (zskI (by omega) hw) ?_
  refine zp_X1_4 hx zw_135 dX1_gather_10 ?_
  refine z_aload_n hx 0 dX1_gather_13 rfl rfl ?_
  refine z_aload_n hx 1 dX1_gather_14 rfl rfl ?_
  refine z_iload_n hx 2 dX1_gather_15 rfl rfl ?_
  refine z_callV hx (As := [.int (zdr d)]) (st := [.ref (E.2.2.2 7)]) (k_X3_unknowns hI (zputI (zputI M 7 3 (zdr d)) 7 4 (nI w)) ha (zskI (by omega) (zskI (by omega) hw)) d) zw_389 zy_X3_unknowns ⟨rfl, rfl⟩ (by decide) (zOB_room ha E) rfl rfl rfl rfl (Nat.le_of_ble_eq_true rfl) dX1_gather_16 ?_
  rintro _ M16 ⟨v16, rfl, q16⟩
  obtain ⟨rfl, rfl⟩ := q16
  show zJ E x 19 _ [.int (nI (zunk w d)), .ref (E.2.2.2 7)] _
  refine zp_X1_5 hx zw_136 dX1_gather_19 ?_
  refine z_iconst hx (v := nI 0) dX1_gather_22 (by decide +kernel) ?_
  refine z_istore_n hx (lv2 := [(3, .int (nI 0)), (0, .ref (E.2.2.2 7)), (1, .ref (E.2.2.2 a)), (2, .int (zdr d))]) dX1_gather_23 rfl (by decide) rfl ?_
  have loop24 : ∀ (fuel24 : Nat) (i : Nat) (N : zM) (_ : i ≤ zunk w d + 1) (_ : N.1 7 3 = zdr d) (_ : N.1 7 4 = nI w) (_ : N.1 7 5 = nI (zunk w d)) (_ : zfr (fun c => c = 7 ∨ c = 10 ∨ 15 ≤ c ∧ c ≤ 20) M N) (_ : ∀ p q, p < i → q ≤ zunk w d → N.2 (15 + 1 * p) q = 0), zunk w d + 1 - i < fuel24 → zJ E x 24 [(3, .int (nI i)), (0, .ref (E.2.2.2 7)), (1, .ref (E.2.2.2 a)), (2, .int (zdr d))] [] N := by
    intro fuel24
    induction fuel24 with
    | zero =>
      intros; omega
    | succ fuel24 ih24 =>
      intro i N hi hN3 hN4 hN5 hNf hNz hfuel24
      refine z_iload_n hx 0 dX1_gather_24 rfl rfl ?_
      refine z_aload_n hx 1 dX1_gather_25 rfl rfl ?_
      refine zg_X1_5 hx zw_136 dX1_gather_26 ?_
      refine z_eqi hN5 ?_
      refine z_icmp_gt_n (tgt := 66) hx (by omega) (by omega) dX1_gather_29 (by decide) (fun h29 => ?_) (fun h29 => ?_)
      · skip
        refine z_iconst hx (v := nI 0) dX1_gather_66 (by decide +kernel) ?_
        refine z_istore_n hx (lv2 := [(3, .int (nI 0)), (0, .ref (E.2.2.2 7)), (1, .ref (E.2.2.2 a)), (2, .int (zdr d))]) dX1_gather_67 rfl (by decide) rfl ?_
        have loop68 : ∀ (fuel68 : Nat) (t : Nat) (N3 : zM) (_ : t ≤ n) (_ : N3.1 7 3 = zdr d) (_ : N3.1 7 4 = nI w) (_ : N3.1 7 5 = nI (zunk w d)) (_ : zfr (fun c => c = 7 ∨ c = 10 ∨ 15 ≤ c ∧ c ≤ 20) M N3) (_ : ∀ p q, p ≤ q → q ≤ zunk w d → N3.2 (15 + 1 * p) q = Int64.ofInt (zS t (fun t => zLn w mm d (cd t) (rd t) t p * zLn w mm d (cd t) (rd t) t q))), n - t < fuel68 → zJ E x 68 [(3, .int (nI t)), (0, .ref (E.2.2.2 7)), (1, .ref (E.2.2.2 a)), (2, .int (zdr d))] [] N3 := by
          intro fuel68
          induction fuel68 with
          | zero =>
            intros; omega
          | succ fuel68 ih68 =>
            intro t N3 ht hT3 hT4 hT5 hTf hTs hfuel68
            refine z_iload_n hx 0 dX1_gather_68 rfl rfl ?_
            refine z_aload_n hx 2 dX1_gather_69 rfl rfl ?_
            refine zg_X3_2 hx ha zw_87 dX1_gather_70 ?_
            refine z_eqi (zRm_fr hR hTf (zgat_fr ha).1 (zgat_fr ha).2.1 (zgat_fr ha).2.2).2.2.2.2.1 ?_
            refine z_icmp_ge_n (tgt := 89) hx (by omega) (by omega) dX1_gather_73 (by decide) (fun h73 => ?_) (fun h73 => ?_)
            · skip
              exact rv _ _ _ rfl ⟨rfl, ⟨hT3, hT4, hT5, hTf, fun p q h1 h2 => by rw [hTs p q h1 h2, show t = n by omega]⟩⟩ dX1_gather_89
            · skip
              refine z_aload_n hx 1 dX1_gather_76 rfl rfl ?_
              refine z_aload_n hx 2 dX1_gather_77 rfl rfl ?_
              refine z_iload_n hx 0 dX1_gather_78 rfl rfl ?_
              refine z_iconst hx (v := nI 1) dX1_gather_79 (by decide +kernel) ?_
              refine z_callV hx (As := [.ref (E.2.2.2 a), .int (nI t), .int (nI 1)]) (st := []) (k_X1_putR hI N3 ha (zRm_fr hR hTf (zgat_fr ha).1 (zgat_fr ha).2.1 (zgat_fr ha).2.2) (by omega) d hT3 hT5 (nI 1)) zw_390 zy_X1_put ⟨rfl, rfl⟩ (by decide) (zOB_X1 E) rfl rfl rfl rfl (Nat.le_of_ble_eq_true rfl) dX1_gather_80 ?_
              rintro _ M80 ⟨rfl, q80⟩
              show zJ E x 83 _ [] _
              refine z_iinc hx (w := nI (t + 1)) (lv2 := [(3, .int (nI (t + 1))), (0, .ref (E.2.2.2 7)), (1, .ref (E.2.2.2 a)), (2, .int (zdr d))]) 0 dX1_gather_83 rfl (z_inc _) (by decide) rfl ?_
              refine z_goto (tgt := 68) hx dX1_gather_86 (by decide) ?_
              exact z_to (ih68 (t + 1) M80 (by omega) (by rw [(q80.2 7 (by omega)).1]; exact hT3) (by rw [(q80.2 7 (by omega)).1]; exact hT4) (by rw [(q80.2 7 (by omega)).1]; exact hT5) (zfr_tr hTf (zfr_w q80.2 (fun c h => Or.inr h))) (fun p q h1 h2 => by rw [q80.1 p q h1 h2, hTs p q h1 h2]; exact zsum_step) (by omega)) [0, 1, 2, 3] rfl rfl
        exact z_to (loop68 _ 0 N (by omega) hN3 hN4 hN5 hNf (fun p q h1 h2 => hNz p q (by omega) h2) (Nat.lt_succ_self _)) [0, 1, 2, 3] rfl rfl
      · skip
        refine z_iconst hx (v := nI 0) dX1_gather_32 (by decide +kernel) ?_
        refine z_istore hx (lv2 := [(4, .int (nI 0)), (3, .int (nI i)), (0, .ref (E.2.2.2 7)), (1, .ref (E.2.2.2 a)), (2, .int (zdr d))]) dX1_gather_33 (by decide) rfl ?_
        have loop35 : ∀ (fuel35 : Nat) (c2 : Nat) (N2 : zM) (_ : c2 ≤ zunk w d + 1) (_ : N2.1 7 3 = zdr d) (_ : N2.1 7 4 = nI w) (_ : N2.1 7 5 = nI (zunk w d)) (_ : zfr (fun c => c = 7 ∨ c = 10 ∨ 15 ≤ c ∧ c ≤ 20) M N2) (_ : ∀ p q, p < i ∨ p = i ∧ q < c2 → q ≤ zunk w d → N2.2 (15 + 1 * p) q = 0), zunk w d + 1 - c2 < fuel35 → zJ E x 35 [(4, .int (nI c2)), (3, .int (nI i)), (0, .ref (E.2.2.2 7)), (1, .ref (E.2.2.2 a)), (2, .int (zdr d))] [] N2 := by
          intro fuel35
          induction fuel35 with
          | zero =>
            intros; omega
          | succ fuel35 ih35 =>
            intro c2 N2 hc hK3 hK4 hK5 hKf hKz hfuel35
            refine z_iload hx 0 dX1_gather_35 rfl ?_
            refine z_aload_n hx 2 dX1_gather_37 rfl rfl ?_
            refine zg_X1_5 hx zw_136 dX1_gather_38 ?_
            refine z_eqi hK5 ?_
            refine z_icmp_gt_n (tgt := 60) hx (by omega) (by omega) dX1_gather_41 (by decide) (fun h41 => ?_) (fun h41 => ?_)
            · skip
              refine z_iinc hx (w := nI (i + 1)) (lv2 := [(3, .int (nI (i + 1))), (4, .int (nI c2)), (0, .ref (E.2.2.2 7)), (1, .ref (E.2.2.2 a)), (2, .int (zdr d))]) 1 dX1_gather_60 rfl (z_inc _) (by decide) rfl ?_
              refine z_goto (tgt := 24) hx dX1_gather_63 (by decide) ?_
              exact z_to (ih24 (i + 1) N2 (by omega) hK3 hK4 hK5 hKf (fun p q h1 h2 => hKz p q (by omega) h2) (by omega)) [0, 2, 3, 4] rfl rfl
            · skip
              refine z_aload_n hx 2 dX1_gather_44 rfl rfl ?_
              refine zg_X1_0 hx zw_131 dX1_gather_45 ?_
              refine z_iload_n hx 1 dX1_gather_48 rfl rfl ?_
              refine z_aald_n hx (zRA_8 E) (by omega) dX1_gather_49 ?_
              refine z_iload hx 0 dX1_gather_50 rfl ?_
              refine z_lconst hx (v := 0) dX1_gather_52 rfl ?_
              refine z_last_n hx (zJA_row (by omega) (by omega) E) (by omega) dX1_gather_53 ?_
              refine z_iinc hx (w := nI (c2 + 1)) (lv2 := [(4, .int (nI (c2 + 1))), (3, .int (nI i)), (0, .ref (E.2.2.2 7)), (1, .ref (E.2.2.2 a)), (2, .int (zdr d))]) 0 dX1_gather_54 rfl (z_inc _) (by decide) rfl ?_
              refine z_goto (tgt := 35) hx dX1_gather_57 (by decide) ?_
              exact z_to (ih35 (c2 + 1) (zputJ N2 (15 + 1 * i) c2 0) (by omega) (zskJI hK3) (zskJI hK4) (zskJI hK5) (zfr_tr hKf (zfr_putJ (Or.inr (Or.inr (by omega))))) (fun p q h1 h2 => by rw [zg_putJ]; by_cases e : 15 + 1 * p = 15 + 1 * i ∧ q = c2; (rw [if_pos e]); (rw [if_neg e]; exact hKz p q (by omega) h2)) (by omega)) [0, 1, 2, 3, 4] rfl rfl
        exact z_to (loop35 _ 0 N (by omega) hN3 hN4 hN5 hNf (fun p q h1 h2 => hNz p q (by omega) h2) (Nat.lt_succ_self _)) [0, 1, 2, 3, 4] rfl rfl
  exact z_to (loop24 _ 0 (zputI (zputI (zputI M 7 3 (zdr d)) 7 4 (nI w)) 7 5 (nI (zunk w d))) (by omega) (zskK (by omega) (zskK (by omega) zhtI)) (zskK (by omega) zhtI) zhtI (zfr_tr (zfr_tr (zfr_putI (Or.inl rfl)) (zfr_putI (Or.inl rfl))) (zfr_putI (Or.inl rfl))) (fun p q h1 => by omega) (Nat.lt_succ_self _)) [0, 1, 2, 3] rfl rfl
end
section
/-- the table's entry of p and j, kept above its diagonal -/
def zsym (M : zM) (p j : Nat) : Int64 := if j < p then M.2 (21 + 1 * j) p else M.2 (21 + 1 * p) j
def zswn (M : zM) (r p : Nat) (over bl : Int64) (j : Nat) : Int64 := (M.2 (21 + 1 * r) j * over - zsym M p r * zsym M p j) / bl
def zswg (M : zM) (r p : Nat) (over bl : Int64) (c2 : Nat) : Nat → Int64 := fun j => if r ≤ j ∧ j < c2 ∧ ¬ j = p then zswn M r p over bl j else M.2 (21 + 1 * r) j
theorem zswg_0 (M : zM) (r p : Nat) (over bl : Int64) : zswg M r p over bl r = M.2 (21 + 1 * r) := by
  funext j
  unfold zswg
  rw [if_neg (by omega)]
theorem zswg_s {M : zM} {r p : Nat} {over bl : Int64} {c2 : Nat} (h : r ≤ c2) (hp : ¬ c2 = p) : vp_updL (zswg M r p over bl c2) c2 (zswn M r p over bl c2) = zswg M r p over bl (c2 + 1) := by
  funext j
  unfold zswg vp_updL
  by_cases e : j = c2
  · subst e
    rw [if_pos rfl, if_pos ⟨h, Nat.lt_succ_self _, hp⟩]
  · rw [if_neg e]
    show (if r ≤ j ∧ j < c2 ∧ ¬ j = p then zswn M r p over bl j else M.2 (21 + 1 * r) j) = _
    by_cases q : r ≤ j ∧ j < c2 ∧ ¬ j = p
    · rw [if_pos q, if_pos ⟨q.1, by omega, q.2.2⟩]
    · rw [if_neg q, if_neg (fun z => q ⟨z.1, by omega, z.2.2⟩)]
theorem zswg_p {M : zM} {r p : Nat} {over bl : Int64} {c2 : Nat} (hp : c2 = p) : zswg M r p over bl (c2 + 1) = zswg M r p over bl c2 := by
  funext j
  unfold zswg
  by_cases q : r ≤ j ∧ j < c2 ∧ ¬ j = p
  · rw [if_pos q, if_pos ⟨q.1, by omega, q.2.2⟩]
  · rw [if_neg q, if_neg (fun z => q ⟨z.1, by omega, z.2.2⟩)]
theorem zswg_at {M : zM} {r p : Nat} {over bl : Int64} {c2 j : Nat} (h : ¬ (r ≤ j ∧ j < c2 ∧ ¬ j = p)) : zswg M r p over bl c2 j = M.2 (21 + 1 * r) j := if_neg h
theorem zsw_rd {M : zM} {r p : Nat} {over bl : Int64} {c2 j : Nat} : (zsetJ M (21 + 1 * r) (zswg M r p over bl c2)).2 (21 + 1 * j) p = M.2 (21 + 1 * j) p := by
  rw [zg_setJ]
  by_cases e : 21 + 1 * j = 21 + 1 * r
  · rw [if_pos e, e]
    exact zswg_at (fun z => z.2.2 rfl)
  · rw [if_neg e]
set_option maxHeartbeats 4000000 in
set_option maxRecDepth 100000 in
theorem k_X1_sweepRow {E : zE} (hI : zI E) (M : zM) {u r p : Nat} {bl : Int64} (over : Int64) (h5 : M.1 7 5 = nI u) (hu : u ≤ 5) (hr : r ≤ u) (hp : p ≤ u) (hrp : ¬ r = p) (h6 : M.2 7 6 = bl) (hb : ¬ bl = 0) : zK E yX1_sweepRow (.code yX1_sweepRow cX1_sweepRow 10 none) (zrm 0 0) [.ref (E.2.2.2 7), .int (nI r), .int (nI p), .long over] M (zpv (fun M2 => M2 = zsetJ M (21 + 1 * r) (zswg M r p over bl (u + 1)))) := by
  refine zK_of hI (by decide) (Nat.le_of_ble_eq_true rfl) (fun x hx ri rz rl rv => ?_)
  show zJ E x 0 [(0, .ref (E.2.2.2 7)), (1, .int (nI r)), (2, .int (nI p)), (3, .long over)] [] M
  have cut24 : zJ E x 24 [(0, .ref (E.2.2.2 7)), (1, .int (nI r)), (2, .int (nI p)), (3, .long over)] [.long (zsym M p r)] M := by
    refine z_lstore hx (lv2 := [(5, .long (zsym M p r)), (0, .ref (E.2.2.2 7)), (1, .int (nI r)), (2, .int (nI p)), (3, .long over)]) dX1_sweepRow_24 (by decide) rfl ?_
    refine z_iload_n hx 2 dX1_sweepRow_26 rfl rfl ?_
    refine z_istore hx (lv2 := [(7, .int (nI r)), (5, .long (zsym M p r)), (0, .ref (E.2.2.2 7)), (1, .int (nI r)), (2, .int (nI p)), (3, .long over)]) dX1_sweepRow_27 (by decide) rfl ?_
    have loop29 : ∀ (fuel29 : Nat) (c2 : Nat) (_ : r ≤ c2) (_ : c2 ≤ u + 1), u + 1 - c2 < fuel29 → zJ E x 29 [(7, .int (nI c2)), (5, .long (zsym M p r)), (0, .ref (E.2.2.2 7)), (1, .int (nI r)), (2, .int (nI p)), (3, .long over)] [] (zsetJ M (21 + 1 * r) (zswg M r p over bl c2)) := by
      intro fuel29
      induction fuel29 with
      | zero =>
        intros; omega
      | succ fuel29 ih29 =>
        intro c2 hrc hcu hfuel29
        refine z_aload_n hx 2 dX1_sweepRow_29 rfl rfl ?_
        refine zg_X1_6 hx zw_137 dX1_sweepRow_30 ?_
        refine z_eql (zskSJ (by omega) h6) ?_
        refine z_lconst hx (v := 0) dX1_sweepRow_33 rfl ?_
        refine z_lcmp hx dX1_sweepRow_34 ?_
        refine z_if_eq (tgt := 119) hx dX1_sweepRow_35 (by decide) (fun h35 => ?_) (fun h35 => ?_)
        · skip
          exact absurd (zcmp0 h35) hb
        · skip
          refine z_iload hx 0 dX1_sweepRow_38 rfl ?_
          refine z_aload_n hx 2 dX1_sweepRow_40 rfl rfl ?_
          refine zg_X1_5 hx zw_136 dX1_sweepRow_41 ?_
          refine z_eqi (zskSJI h5) ?_
          refine z_icmp_gt_n (tgt := 119) hx (by omega) (by omega) dX1_sweepRow_44 (by decide) (fun h44 => ?_) (fun h44 => ?_)
          · skip
            exact rv _ _ _ rfl ⟨rfl, (by rw [show c2 = u + 1 by omega])⟩ dX1_sweepRow_119
          · skip
            refine z_iload hx 0 dX1_sweepRow_47 rfl ?_
            refine z_iload_n hx 4 dX1_sweepRow_49 rfl rfl ?_
            refine z_icmp_eq_n (tgt := 113) hx (by omega) (by omega) dX1_sweepRow_50 (by decide) (fun h50 => ?_) (fun h50 => ?_)
            · skip
              refine z_iinc hx (w := nI (c2 + 1)) (lv2 := [(7, .int (nI (c2 + 1))), (5, .long (zsym M p r)), (0, .ref (E.2.2.2 7)), (1, .int (nI r)), (2, .int (nI p)), (3, .long over)]) 0 dX1_sweepRow_113 rfl (z_inc _) (by decide) rfl ?_
              refine z_goto (tgt := 29) hx dX1_sweepRow_116 (by decide) ?_
              exact z_to (ih29 (c2 + 1) (by omega) (by omega) (by omega)) [0, 1, 2, 3, 4, 5] rfl (by rw [zswg_p h50])
            · skip
              refine z_iload hx 0 dX1_sweepRow_53 rfl ?_
              refine z_iload_n hx 4 dX1_sweepRow_55 rfl rfl ?_
              refine z_icmp_ge_n (tgt := 71) hx (by omega) (by omega) dX1_sweepRow_56 (by decide) (fun h56 => ?_) (fun h56 => ?_)
              · skip
                refine z_aload_n hx 2 dX1_sweepRow_71 rfl rfl ?_
                refine zg_X1_1 hx zw_132 dX1_sweepRow_72 ?_
                refine z_iload_n hx 4 dX1_sweepRow_75 rfl rfl ?_
                refine z_aald_n hx (zRA_9 E) (by omega) dX1_sweepRow_76 ?_
                refine z_iload hx 0 dX1_sweepRow_77 rfl ?_
                refine z_lald_n hx (zJA_row (by omega) (by omega) E) (by omega) dX1_sweepRow_79 ?_
                refine z_eql (zskSJ (by omega) rfl) ?_
                refine z_eql (show _ = zsym M p c2 by rw [zsym, if_neg (by omega)]) ?_
                refine z_lstore hx (lv2 := [(8, .long (zsym M p c2)), (7, .int (nI c2)), (5, .long (zsym M p r)), (0, .ref (E.2.2.2 7)), (1, .int (nI r)), (2, .int (nI p)), (3, .long over)]) dX1_sweepRow_80 (by decide) rfl ?_
                refine z_aload_n hx 3 dX1_sweepRow_82 rfl rfl ?_
                refine zg_X1_1 hx zw_132 dX1_sweepRow_83 ?_
                refine z_iload_n hx 4 dX1_sweepRow_86 rfl rfl ?_
                refine z_aald_n hx (zRA_9 E) (by omega) dX1_sweepRow_87 ?_
                refine z_iload hx 1 dX1_sweepRow_88 rfl ?_
                refine z_aload_n hx 3 dX1_sweepRow_90 rfl rfl ?_
                refine zg_X1_1 hx zw_132 dX1_sweepRow_91 ?_
                refine z_iload_n hx 4 dX1_sweepRow_94 rfl rfl ?_
                refine z_aald_n hx (zRA_9 E) (by omega) dX1_sweepRow_95 ?_
                refine z_iload hx 1 dX1_sweepRow_96 rfl ?_
                refine z_lald_n hx (zJA_row (by omega) (by omega) E) (by omega) dX1_sweepRow_98 ?_
                refine z_eql zhtSJ ?_
                refine z_eql (zswg_at (by omega)) ?_
                refine z_lload_n hx 6 dX1_sweepRow_99 rfl rfl ?_
                refine z_lmul hx dX1_sweepRow_100 ?_
                refine z_lload hx 2 dX1_sweepRow_101 rfl ?_
                refine z_lload hx 0 dX1_sweepRow_103 rfl ?_
                refine z_lmul hx dX1_sweepRow_105 ?_
                refine z_lsub hx dX1_sweepRow_106 ?_
                refine z_aload_n hx 3 dX1_sweepRow_107 rfl rfl ?_
                refine zg_X1_6 hx zw_137 dX1_sweepRow_108 ?_
                refine z_eql (zskSJ (by omega) h6) ?_
                refine z_ldiv hx dX1_sweepRow_111 hb ?_
                refine z_last_n hx (zJA_row (by omega) (by omega) E) (by omega) dX1_sweepRow_112 ?_
                refine z_iinc hx (w := nI (c2 + 1)) (lv2 := [(7, .int (nI (c2 + 1))), (8, .long (zsym M p c2)), (5, .long (zsym M p r)), (0, .ref (E.2.2.2 7)), (1, .int (nI r)), (2, .int (nI p)), (3, .long over)]) 1 dX1_sweepRow_113 rfl (z_inc _) (by decide) rfl ?_
                refine z_goto (tgt := 29) hx dX1_sweepRow_116 (by decide) ?_
                exact z_to (ih29 (c2 + 1) (by omega) (by omega) (by omega)) [0, 2, 3, 4, 5, 6] rfl (by rw [zputJ_set]; exact congrArg _ (zswg_s hrc h50))
              · skip
                refine z_aload_n hx 2 dX1_sweepRow_59 rfl rfl ?_
                refine zg_X1_1 hx zw_132 dX1_sweepRow_60 ?_
                refine z_iload hx 0 dX1_sweepRow_63 rfl ?_
                refine z_aald_n hx (zRA_9 E) (by omega) dX1_sweepRow_65 ?_
                refine z_iload_n hx 4 dX1_sweepRow_66 rfl rfl ?_
                refine z_lald_n hx (zJA_row (by omega) (by omega) E) (by omega) dX1_sweepRow_67 ?_
                refine z_eql zsw_rd ?_
                refine z_eql (show _ = zsym M p c2 by rw [zsym, if_pos h56]) ?_
                refine z_goto (tgt := 80) hx dX1_sweepRow_68 (by decide) ?_
                refine z_lstore hx (lv2 := [(8, .long (zsym M p c2)), (7, .int (nI c2)), (5, .long (zsym M p r)), (0, .ref (E.2.2.2 7)), (1, .int (nI r)), (2, .int (nI p)), (3, .long over)]) dX1_sweepRow_80 (by decide) rfl ?_
                refine z_aload_n hx 3 dX1_sweepRow_82 rfl rfl ?_
                refine zg_X1_1 hx zw_132 dX1_sweepRow_83 ?_
                refine z_iload_n hx 4 dX1_sweepRow_86 rfl rfl ?_
                refine z_aald_n hx (zRA_9 E) (by omega) dX1_sweepRow_87 ?_
                refine z_iload hx 1 dX1_sweepRow_88 rfl ?_
                refine z_aload_n hx 3 dX1_sweepRow_90 rfl rfl ?_
                refine zg_X1_1 hx zw_132 dX1_sweepRow_91 ?_
                refine z_iload_n hx 4 dX1_sweepRow_94 rfl rfl ?_
                refine z_aald_n hx (zRA_9 E) (by omega) dX1_sweepRow_95 ?_
                refine z_iload hx 1 dX1_sweepRow_96 rfl ?_
                refine z_lald_n hx (zJA_row (by omega) (by omega) E) (by omega) dX1_sweepRow_98 ?_
                refine z_eql zhtSJ ?_
                refine z_eql (zswg_at (by omega)) ?_
                refine z_lload_n hx 6 dX1_sweepRow_99 rfl rfl ?_
                refine z_lmul hx dX1_sweepRow_100 ?_
                refine z_lload hx 2 dX1_sweepRow_101 rfl ?_
                refine z_lload hx 0 dX1_sweepRow_103 rfl ?_
                refine z_lmul hx dX1_sweepRow_105 ?_
                refine z_lsub hx dX1_sweepRow_106 ?_
                refine z_aload_n hx 3 dX1_sweepRow_107 rfl rfl ?_
                refine zg_X1_6 hx zw_137 dX1_sweepRow_108 ?_
                refine z_eql (zskSJ (by omega) h6) ?_
                refine z_ldiv hx dX1_sweepRow_111 hb ?_
                refine z_last_n hx (zJA_row (by omega) (by omega) E) (by omega) dX1_sweepRow_112 ?_
                refine z_iinc hx (w := nI (c2 + 1)) (lv2 := [(7, .int (nI (c2 + 1))), (8, .long (zsym M p c2)), (5, .long (zsym M p r)), (0, .ref (E.2.2.2 7)), (1, .int (nI r)), (2, .int (nI p)), (3, .long over)]) 1 dX1_sweepRow_113 rfl (z_inc _) (by decide) rfl ?_
                refine z_goto (tgt := 29) hx dX1_sweepRow_116 (by decide) ?_
                exact z_to (ih29 (c2 + 1) (by omega) (by omega) (by omega)) [0, 2, 3, 4, 5, 6] rfl (by rw [zputJ_set]; exact congrArg _ (zswg_s hrc h50))
    exact z_to (loop29 _ r (Nat.le_refl _) (by omega) (Nat.lt_succ_self _)) [0, 1, 2, 3, 4, 5] rfl (by rw [zswg_0, zsetJ_self])
  show zJ E x 0 [(0, .ref (E.2.2.2 7)), (1, .int (nI r)), (2, .int (nI p)), (3, .long over)] [] M
  refine z_iload_n hx 1 dX1_sweepRow_0 rfl rfl ?_
  refine z_iload_n hx 2 dX1_sweepRow_1 rfl rfl ?_
  refine z_icmp_ge_n (tgt := 16) hx (by omega) (by omega) dX1_sweepRow_2 (by decide) (fun h2 => ?_) (fun h2 => ?_)
  · skip
    refine z_aload_n hx 0 dX1_sweepRow_16 rfl rfl ?_
    refine zg_X1_1 hx zw_132 dX1_sweepRow_17 ?_
    refine z_iload_n hx 2 dX1_sweepRow_20 rfl rfl ?_
    refine z_aald_n hx (zRA_9 E) (by omega) dX1_sweepRow_21 ?_
    refine z_iload_n hx 1 dX1_sweepRow_22 rfl rfl ?_
    refine z_lald_n hx (zJA_row (by omega) (by omega) E) (by omega) dX1_sweepRow_23 ?_
    refine z_eql (show _ = zsym M p r by rw [zsym, if_neg (by omega)]) ?_
    exact z_to cut24 [0, 1, 2, 3] rfl rfl
  · skip
    refine z_aload_n hx 0 dX1_sweepRow_5 rfl rfl ?_
    refine zg_X1_1 hx zw_132 dX1_sweepRow_6 ?_
    refine z_iload_n hx 1 dX1_sweepRow_9 rfl rfl ?_
    refine z_aald_n hx (zRA_9 E) (by omega) dX1_sweepRow_10 ?_
    refine z_iload_n hx 2 dX1_sweepRow_11 rfl rfl ?_
    refine z_lald_n hx (zJA_row (by omega) (by omega) E) (by omega) dX1_sweepRow_12 ?_
    refine z_eql (show _ = zsym M p r by rw [zsym, if_pos h2]) ?_
    refine z_goto (tgt := 24) hx dX1_sweepRow_13 (by decide) ?_
    exact z_to cut24 [0, 1, 2, 3] rfl rfl
theorem zsym_eq {M N : zM} {p j u : Nat} (hj : j ≤ u) (hp : p ≤ u) (h : ∀ a b, a ≤ b → b ≤ u → (a = p ∨ b = p) → N.2 (21 + 1 * a) b = M.2 (21 + 1 * a) b) : zsym N p j = zsym M p j := by
  unfold zsym
  by_cases q : j < p
  · rw [if_pos q, if_pos q, h j p (by omega) hp (Or.inr rfl)]
  · rw [if_neg q, if_neg q, h p j (by omega) hj (Or.inl rfl)]
theorem zsw_step {M N M2 : zM} {u p f i : Nat} {over bl : Int64} (hu : i ≤ u) (hp : p ≤ u) (hfi : f ≤ i) (hip : ¬ i = p) (hN : ∀ a b, a ≤ b → b ≤ u → N.2 (21 + 1 * a) b = if ¬ a = p ∧ ¬ b = p ∧ f ≤ a ∧ a < i then zswn M a p over bl b else M.2 (21 + 1 * a) b) (e : M2 = zsetJ N (21 + 1 * i) (zswg N i p over bl (u + 1))) : ∀ a b, a ≤ b → b ≤ u → M2.2 (21 + 1 * a) b = if ¬ a = p ∧ ¬ b = p ∧ f ≤ a ∧ a < i + 1 then zswn M a p over bl b else M.2 (21 + 1 * a) b := by
  intro a b h1 h2
  have hs : ∀ j, j ≤ u → zsym N p j = zsym M p j := fun j hj => zsym_eq hj hp (fun a b q1 q2 q3 => by rw [hN a b q1 q2, if_neg (by omega)])
  rw [e, zg_setJ]
  by_cases ea : a = i
  · subst ea
    rw [if_pos rfl]
    unfold zswg
    by_cases eb : b = p
    · rw [if_neg (by omega), if_neg (by omega), hN a b h1 h2, if_neg (by omega)]
    · rw [if_pos ⟨h1, by omega, eb⟩, if_pos ⟨hip, eb, hfi, Nat.lt_succ_self _⟩]
      unfold zswn
      rw [hs a hu, hs b h2, hN a b h1 h2, if_neg (by omega)]
  · rw [if_neg (by omega), hN a b h1 h2]
    exact zif_cong (by omega)
set_option maxHeartbeats 4000000 in
set_option maxRecDepth 100000 in
theorem k_X1_sweep {E : zE} (hI : zI E) (M : zM) {u p f : Nat} {bl : Int64} (h5 : M.1 7 5 = nI u) (hu : u ≤ 5) (hp : p ≤ u) (hf : f ≤ u + 1) (h6 : M.2 7 6 = bl) (hb : ¬ bl = 0) : zK E yX1_sweep (.code yX1_sweep cX1_sweep 6 none) (zrm 1 29) [.ref (E.2.2.2 7), .int (nI p), .int (nI f)] M (zpv (fun M2 => M2.1 7 = M.1 7 ∧ M2.2 7 6 = M.2 (21 + 1 * p) p ∧ zfr (fun c => c = 7 ∨ 21 ≤ c ∧ c ≤ 26) M M2 ∧ ∀ a b, a ≤ b → b ≤ u → M2.2 (21 + 1 * a) b = if a = p ∧ b = p then -bl else if ¬ a = p ∧ ¬ b = p ∧ f ≤ a then zswn M a p (M.2 (21 + 1 * p) p) bl b else M.2 (21 + 1 * a) b)) := by
  refine zK_of hI (by decide) (Nat.le_of_ble_eq_true rfl) (fun x hx ri rz rl rv => ?_)
  show zJ E x 0 [(0, .ref (E.2.2.2 7)), (1, .int (nI p)), (2, .int (nI f))] [] M
  refine z_aload_n hx 0 dX1_sweep_0 rfl rfl ?_
  refine zg_X1_1 hx zw_132 dX1_sweep_1 ?_
  refine z_iload_n hx 1 dX1_sweep_4 rfl rfl ?_
  refine z_aald_n hx (zRA_9 E) (by omega) dX1_sweep_5 ?_
  refine z_iload_n hx 1 dX1_sweep_6 rfl rfl ?_
  refine z_lald_n hx (zJA_row (by omega) (by omega) E) (by omega) dX1_sweep_7 ?_
  refine z_lstore_n hx (lv2 := [(3, .long (M.2 (21 + 1 * p) p)), (0, .ref (E.2.2.2 7)), (1, .int (nI p)), (2, .int (nI f))]) dX1_sweep_8 rfl (by decide) rfl ?_
  refine z_iload_n hx 3 dX1_sweep_9 rfl rfl ?_
  refine z_istore hx (lv2 := [(5, .int (nI f)), (3, .long (M.2 (21 + 1 * p) p)), (0, .ref (E.2.2.2 7)), (1, .int (nI p)), (2, .int (nI f))]) dX1_sweep_10 (by decide) rfl ?_
  have loop12 : ∀ (fuel12 : Nat) (i : Nat) (N : zM) (_ : f ≤ i) (_ : i ≤ u + 1) (_ : N.1 7 = M.1 7) (_ : N.2 7 = M.2 7) (_ : zfr (fun c => c = 7 ∨ 21 ≤ c ∧ c ≤ 26) M N) (_ : ∀ a b, a ≤ b → b ≤ u → N.2 (21 + 1 * a) b = if ¬ a = p ∧ ¬ b = p ∧ f ≤ a ∧ a < i then zswn M a p (M.2 (21 + 1 * p) p) bl b else M.2 (21 + 1 * a) b), u + 1 - i < fuel12 → zJ E x 12 [(5, .int (nI i)), (3, .long (M.2 (21 + 1 * p) p)), (0, .ref (E.2.2.2 7)), (1, .int (nI p)), (2, .int (nI f))] [] N := by
    intro fuel12
    induction fuel12 with
    | zero =>
      intros; omega
    | succ fuel12 ih12 =>
      intro i N hfi hi hN1 hN2 hNf hNs hfuel12
      refine z_iload hx 0 dX1_sweep_12 rfl ?_
      refine z_aload_n hx 2 dX1_sweep_14 rfl rfl ?_
      refine zg_X1_5 hx zw_136 dX1_sweep_15 ?_
      refine z_eqi (show N.1 7 5 = nI u by rw [hN1]; exact h5) ?_
      refine z_icmp_gt_n (tgt := 41) hx (by omega) (by omega) dX1_sweep_18 (by decide) (fun h18 => ?_) (fun h18 => ?_)
      · skip
        refine z_aload_n hx 2 dX1_sweep_41 rfl rfl ?_
        refine zg_X1_1 hx zw_132 dX1_sweep_42 ?_
        refine z_iload_n hx 3 dX1_sweep_45 rfl rfl ?_
        refine z_aald_n hx (zRA_9 E) (by omega) dX1_sweep_46 ?_
        refine z_iload_n hx 3 dX1_sweep_47 rfl rfl ?_
        refine z_aload_n hx 2 dX1_sweep_48 rfl rfl ?_
        refine zg_X1_6 hx zw_137 dX1_sweep_49 ?_
        refine z_eql (show N.2 7 6 = bl by rw [hN2]; exact h6) ?_
        refine z_lneg hx dX1_sweep_52 ?_
        refine z_last_n hx (zJA_row (by omega) (by omega) E) (by omega) dX1_sweep_53 ?_
        refine z_aload_n hx 2 dX1_sweep_54 rfl rfl ?_
        refine z_lload_n hx 1 dX1_sweep_55 rfl rfl ?_
        refine zp_X1_6 hx zw_137 dX1_sweep_56 ?_
        exact rv _ _ _ rfl ⟨rfl, ⟨hN1, zhtJ, zfr_tr hNf (zfr_tr (zfr_putJ (Or.inr (by omega))) (zfr_putJ (Or.inl rfl))), fun a b q1 q2 => by
            rw [zg_putJ, if_neg (by omega), zg_putJ, hNs a b q1 q2]
            by_cases e : a = p ∧ b = p
            · rw [if_pos ⟨by omega, e.2⟩, if_pos e]
            · rw [if_neg (by omega), if_neg e]
              exact zif_cong (by omega)⟩⟩ dX1_sweep_59
      · skip
        refine z_iload hx 0 dX1_sweep_21 rfl ?_
        refine z_iload_n hx 3 dX1_sweep_23 rfl rfl ?_
        refine z_icmp_eq_n (tgt := 35) hx (by omega) (by omega) dX1_sweep_24 (by decide) (fun h24 => ?_) (fun h24 => ?_)
        · skip
          refine z_iinc hx (w := nI (i + 1)) (lv2 := [(5, .int (nI (i + 1))), (3, .long (M.2 (21 + 1 * p) p)), (0, .ref (E.2.2.2 7)), (1, .int (nI p)), (2, .int (nI f))]) 0 dX1_sweep_35 rfl (z_inc _) (by decide) rfl ?_
          refine z_goto (tgt := 12) hx dX1_sweep_38 (by decide) ?_
          exact z_to (ih12 (i + 1) N (by omega) (by omega) hN1 hN2 hNf (fun a b q1 q2 => by rw [hNs a b q1 q2]; exact zif_cong (by omega)) (by omega)) [0, 1, 2, 3, 4] rfl rfl
        · skip
          refine z_aload_n hx 2 dX1_sweep_27 rfl rfl ?_
          refine z_iload hx 0 dX1_sweep_28 rfl ?_
          refine z_iload_n hx 3 dX1_sweep_30 rfl rfl ?_
          refine z_lload_n hx 1 dX1_sweep_31 rfl rfl ?_
          refine z_callV hx (As := [.int (nI i), .int (nI p), .long (M.2 (21 + 1 * p) p)]) (st := []) (k_X1_sweepRow hI N (M.2 (21 + 1 * p) p) (by rw [hN1]; exact h5) hu (by omega) hp h24 (by rw [hN2]; exact h6) hb) zw_404 zy_X1_sweepRow ⟨rfl, rfl⟩ (by decide) (zOB_X1 E) rfl rfl rfl rfl (Nat.le_of_ble_eq_true rfl) dX1_sweep_32 ?_
          rintro _ M32 ⟨rfl, q32⟩
          show zJ E x 35 _ [] _
          refine z_iinc hx (w := nI (i + 1)) (lv2 := [(5, .int (nI (i + 1))), (3, .long (M.2 (21 + 1 * p) p)), (0, .ref (E.2.2.2 7)), (1, .int (nI p)), (2, .int (nI f))]) 0 dX1_sweep_35 rfl (z_inc _) (by decide) rfl ?_
          refine z_goto (tgt := 12) hx dX1_sweep_38 (by decide) ?_
          exact z_to (ih12 (i + 1) M32 (by omega) (by omega) (by rw [q32]; exact hN1) (by rw [q32, zg_setJ, if_neg (by omega)]; exact hN2) (zfr_tr hNf (by rw [q32]; exact zfr_setJ (Or.inr (by omega)))) (zsw_step (by omega) (by omega) hfi h24 hNs q32) (by omega)) [0, 1, 2, 3, 4] rfl rfl
  exact z_to (loop12 _ f M (Nat.le_refl _) (by omega) rfl rfl (zfr_rf _ _) (fun a b q1 q2 => by rw [if_neg (by omega)]) (Nat.lt_succ_self _)) [0, 1, 2, 3, 4] rfl rfl
end
section
def zrg (z : Int) : Prop := -4611686018427387904 < z ∧ z < 4611686018427387904
theorem zdivx {x D : Int} (h : ¬ D = 0) (h1 : zrg (x * D)) (h2 : zrg D) : Int64.ofInt (x * D) / Int64.ofInt D = Int64.ofInt x := by
  have e1 : Int64.minValue.toInt = -9223372036854775808 := by decide +kernel
  have e2 : Int64.maxValue.toInt = 9223372036854775807 := by decide +kernel
  rw [← Int64.ofInt_tdiv (by rw [e1]; have := h1.1; omega) (by rw [e2]; have := h1.2; omega) (by rw [e1]; have := h2.1; omega) (by rw [e2]; have := h2.2; omega), Int.mul_tdiv_cancel _ h]
theorem zlt64 {a b : Int} (ha : zrg a) (hb : zrg b) : Int64.ofInt a < Int64.ofInt b ↔ a < b := by
  have e1 : Int64.minValue.toInt = -9223372036854775808 := by decide +kernel
  have e2 : Int64.maxValue.toInt = 9223372036854775807 := by decide +kernel
  exact Int64.ofInt_lt_iff_lt (by rw [e1]; have := ha.1; omega) (by rw [e2]; have := ha.2; omega) (by rw [e1]; have := hb.1; omega) (by rw [e2]; have := hb.2; omega)
theorem zeq64 {a b : Int} (ha : zrg a) (hb : zrg b) : Int64.ofInt a = Int64.ofInt b ↔ a = b := by
  refine ⟨fun h => ?_, fun h => by rw [h]⟩
  have h2 := congrArg Int64.toInt h
  rwa [Int64.toInt_ofInt_of_le (by have := ha.1; omega) (by have := ha.2; omega), Int64.toInt_ofInt_of_le (by have := hb.1; omega) (by have := hb.2; omega)] at h2
/-- a table B swept pivot by pivot, u of them: T k behind k of them, over D k -/
def zTab (u : Nat) (B : Nat → Nat → Int) (T : Nat → Nat → Nat → Int) (D : Nat → Int) : Prop := D 0 = 1 ∧ (∀ k i j, T k i j = T k j i) ∧ (∀ i j, i ≤ j → j ≤ u → T 0 i j = B i j) ∧ ∀ k, k < u → (∀ j, j ≤ k → 0 < D j) → (D (k + 1) = T k k k ∧ 0 ≤ D (k + 1) ∧ zrg (D (k + 1))) ∧ (0 < D (k + 1) → T (k + 1) k k = -D k ∧ (∀ i, i ≤ u → ¬ i = k → T (k + 1) i k = T k i k) ∧ ∀ i j, i ≤ u → j ≤ u → ¬ i = k → ¬ j = k → T (k + 1) i j * D k = T k i j * D (k + 1) - T k i k * T k j k ∧ zrg (T (k + 1) i j * D k))
theorem zTab_one {u : Nat} {B : Nat → Nat → Int} {T : Nat → Nat → Nat → Int} {D : Nat → Int} {M M2 : zM} {k : Nat} {wh : Bool} (hT : zTab u B T D) (hk : k < u) (hD : ∀ j, j ≤ k → 0 < D j) (hrg : zrg (D k)) (hpos : 0 < D (k + 1))
    (hM : ∀ i j, i ≤ j → j ≤ u → (wh = true ∨ k ≤ i) → M.2 (21 + 1 * i) j = Int64.ofInt (T k i j))
    (h2 : ∀ a b, a ≤ b → b ≤ u → M2.2 (21 + 1 * a) b = if a = k ∧ b = k then -Int64.ofInt (D k) else if ¬ a = k ∧ ¬ b = k ∧ (if wh then 0 else k + 1) ≤ a then zswn M a k (M.2 (21 + 1 * k) k) (Int64.ofInt (D k)) b else M.2 (21 + 1 * a) b) :
    ∀ i j, i ≤ j → j ≤ u → (wh = true ∨ k + 1 ≤ i) → M2.2 (21 + 1 * i) j = Int64.ofInt (T (k + 1) i j) := by
  intro i j h3 h4 h5
  obtain ⟨-, hsy, -, hst⟩ := hT
  obtain ⟨⟨d1, d2, d3⟩, d4⟩ := hst k hk hD
  obtain ⟨t1, t2, t3⟩ := d4 hpos
  rw [h2 i j h3 h4]
  by_cases e : i = k ∧ j = k
  · obtain ⟨rfl, rfl⟩ := e
    rw [if_pos ⟨rfl, rfl⟩, t1, zI64_neg]
  · rw [if_neg e]
    have hs : ∀ m, m ≤ u → (wh = true ∨ k ≤ m) → zsym M k m = Int64.ofInt (T k m k) := by
      intro m hm hw
      unfold zsym
      by_cases q : m < k
      · rw [if_pos q, hM m k (by omega) (by omega) (by rcases hw with z | z; exact Or.inl z; omega)]
      · rw [if_neg q, hM k m (by omega) hm (Or.inr (Nat.le_refl _)), hsy]
    by_cases q : i = k ∨ j = k
    · rw [if_neg (fun z => q.elim z.1 z.2.1), hM i j h3 h4 (by rcases h5 with z | z; exact Or.inl z; exact Or.inr (by omega))]
      rcases q with rfl | rfl
      · rw [hsy (i + 1) i j, t2 j h4 (fun z => e ⟨rfl, z⟩), hsy i j i]
      · rw [t2 i (by omega) (fun z => e ⟨z, rfl⟩)]
    · have q1 : ¬ i = k := fun z => q (Or.inl z)
      have q2 : ¬ j = k := fun z => q (Or.inr z)
      rw [if_pos ⟨q1, q2, by rcases h5 with z | z; (rw [z]; simp); (split <;> omega)⟩]
      unfold zswn
      have w1 : wh = true ∨ k ≤ i := by rcases h5 with z | z; exact Or.inl z; exact Or.inr (by omega)
      have w2 : wh = true ∨ k ≤ j := by rcases h5 with z | z; exact Or.inl z; exact Or.inr (by omega)
      obtain ⟨f1, f2⟩ := t3 i j (by omega) h4 q1 q2
      rw [hs i (by omega) w1, hs j h4 w2, hM i j h3 h4 w1, hM k k (Nat.le_refl _) (by omega) (Or.inr (Nat.le_refl _)), ← d1, zI64_mul, zI64_mul, zI64_sub, ← f1]
      have hk0 : ¬ D k = 0 := by have := hD k (Nat.le_refl _); omega
      exact zdivx hk0 f2 hrg
theorem zTab_rg {u : Nat} {B : Nat → Nat → Int} {T : Nat → Nat → Nat → Int} {D : Nat → Int} (hT : zTab u B T D) {k : Nat} (hk : k ≤ u) (hD : ∀ j, j < k → 0 < D j) : zrg (D k) := by
  cases k with
  | zero => rw [hT.1]; exact ⟨by decide, by decide⟩
  | succ k => exact ((hT.2.2.2 k (by omega) (fun j hj => hD j (by omega))).1).2.2
theorem zcmpgt {x : Int64} (h : 0 < lg_cmp x 0) : 0 < x := (lg_cmp_gt x 0).mp h
theorem zcmpngt {x : Int64} (h : ¬ 0 < lg_cmp x 0) : ¬ 0 < x := fun e => h ((lg_cmp_gt x 0).mpr e)
set_option maxHeartbeats 4000000 in
set_option maxRecDepth 100000 in
theorem k_X1_sweepAll {E : zE} (hI : zI E) (M : zM) {u : Nat} {B : Nat → Nat → Int} {T : Nat → Nat → Nat → Int} {D : Nat → Int} (hT : zTab u B T D) (h5 : M.1 7 5 = nI u) (hu : u ≤ 5) (hB : ∀ p q, p ≤ q → q ≤ u → M.2 (15 + 1 * p) q = Int64.ofInt (B p q)) (wh : Bool) : zK E yX1_sweepAll (.code yX1_sweepAll cX1_sweepAll 3 (some .boolean)) (zrm 2 54) [.ref (E.2.2.2 7), .int (zdr wh)] M (zpi (fun v M2 => ((v = nI 1 ∧ (∀ j, j ≤ u → 0 < D j) ∧ M2.2 7 6 = Int64.ofInt (D u) ∧ (wh = true → ∀ i j, i ≤ j → j ≤ u → M2.2 (21 + 1 * i) j = Int64.ofInt (T u i j)) ∧ M2.2 (21 + 1 * u) u = Int64.ofInt (T u u u)) ∨ (v = nI 0 ∧ ∃ k, 1 ≤ k ∧ k ≤ u ∧ (∀ j, j < k → 0 < D j) ∧ D k = 0)) ∧ M2.1 7 = M.1 7 ∧ zfr (fun c => c = 7 ∨ 21 ≤ c ∧ c ≤ 26) M M2)) := by
  refine zK_of hI (by decide) (Nat.le_of_ble_eq_true rfl) (fun x hx ri rz rl rv => ?_)
  show zJ E x 0 [(0, .ref (E.2.2.2 7)), (1, .int (zdr wh))] [] M
  refine z_iconst hx (v := nI 0) dX1_sweepAll_0 (by decide +kernel) ?_
  refine z_istore_n hx (lv2 := [(2, .int (nI 0)), (0, .ref (E.2.2.2 7)), (1, .int (zdr wh))]) dX1_sweepAll_1 rfl (by decide) rfl ?_
  have loop2 : ∀ (fuel2 : Nat) (i : Nat) (N : zM) (_ : i ≤ u + 1) (_ : N.1 7 = M.1 7) (_ : zfr (fun c => 21 ≤ c ∧ c ≤ 26) M N) (_ : ∀ p q, p < i → p ≤ q → q ≤ u → N.2 (21 + 1 * p) q = Int64.ofInt (B p q)), u + 1 - i < fuel2 → zJ E x 2 [(2, .int (nI i)), (0, .ref (E.2.2.2 7)), (1, .int (zdr wh))] [] N := by
    intro fuel2
    induction fuel2 with
    | zero =>
      intros; omega
    | succ fuel2 ih2 =>
      intro i N hi hN1 hNf hNs hfuel2
      refine z_iload_n hx 0 dX1_sweepAll_2 rfl rfl ?_
      refine z_aload_n hx 1 dX1_sweepAll_3 rfl rfl ?_
      refine zg_X1_5 hx zw_136 dX1_sweepAll_4 ?_
      refine z_eqi (show N.1 7 5 = nI u by rw [hN1]; exact h5) ?_
      refine z_icmp_gt_n (tgt := 41) hx (by omega) (by omega) dX1_sweepAll_7 (by decide) (fun h7 => ?_) (fun h7 => ?_)
      · skip
        refine z_aload_n hx 1 dX1_sweepAll_41 rfl rfl ?_
        refine z_lconst hx (v := 1) dX1_sweepAll_42 rfl ?_
        refine zp_X1_6 hx zw_137 dX1_sweepAll_43 ?_
        refine z_iconst hx (v := nI 0) dX1_sweepAll_46 (by decide +kernel) ?_
        refine z_istore_n hx (lv2 := [(2, .int (nI 0)), (0, .ref (E.2.2.2 7)), (1, .int (zdr wh))]) dX1_sweepAll_47 rfl (by decide) rfl ?_
        have loop48 : ∀ (fuel48 : Nat) (k : Nat) (N2 : zM) (_ : k ≤ u) (_ : N2.1 7 = M.1 7) (_ : zfr (fun c => c = 7 ∨ 21 ≤ c ∧ c ≤ 26) M N2) (_ : ∀ j, j ≤ k → 0 < D j) (_ : N2.2 7 6 = Int64.ofInt (D k)) (_ : ∀ i j, i ≤ j → j ≤ u → (wh = true ∨ k ≤ i) → N2.2 (21 + 1 * i) j = Int64.ofInt (T k i j)), u - k < fuel48 → zJ E x 48 [(2, .int (nI k)), (0, .ref (E.2.2.2 7)), (1, .int (zdr wh))] [] N2 := by
          intro fuel48
          induction fuel48 with
          | zero =>
            intros; omega
          | succ fuel48 ih48 =>
            intro k N2 hk hK1 hKf hKD hK6 hKs hfuel48
            refine z_iload_n hx 0 dX1_sweepAll_48 rfl rfl ?_
            refine z_aload_n hx 1 dX1_sweepAll_49 rfl rfl ?_
            refine zg_X1_5 hx zw_136 dX1_sweepAll_50 ?_
            refine z_eqi (show N2.1 7 5 = nI u by rw [hK1]; exact h5) ?_
            refine z_icmp_ge_n (tgt := 93) hx (by omega) (by omega) dX1_sweepAll_53 (by decide) (fun h53 => ?_) (fun h53 => ?_)
            · skip
              refine z_iconst hx (v := nI 1) dX1_sweepAll_93 (by decide +kernel) ?_
              exact rz _ _ _ _ rfl (Or.inr rfl) ⟨_, rfl, ⟨Or.inl ⟨rfl, fun j hj => hKD j (by omega), by rw [hK6, show k = u by omega], fun hw i j z1 z2 => by rw [hKs i j z1 z2 (Or.inl hw), show k = u by omega], by rw [hKs u u (Nat.le_refl _) (Nat.le_refl _) (Or.inr hk), show k = u by omega]⟩, hK1, hKf⟩⟩ dX1_sweepAll_94
            · skip
              refine z_aload_n hx 1 dX1_sweepAll_56 rfl rfl ?_
              refine zg_X1_1 hx zw_132 dX1_sweepAll_57 ?_
              refine z_iload_n hx 0 dX1_sweepAll_60 rfl rfl ?_
              refine z_aald_n hx (zRA_9 E) (by omega) dX1_sweepAll_61 ?_
              refine z_iload_n hx 0 dX1_sweepAll_62 rfl rfl ?_
              refine z_lald_n hx (zJA_row (by omega) (by omega) E) (by omega) dX1_sweepAll_63 ?_
              refine z_eql (hKs k k (Nat.le_refl _) (by omega) (Or.inr (Nat.le_refl _))) ?_
              refine z_lconst hx (v := 0) dX1_sweepAll_64 rfl ?_
              refine z_lcmp hx dX1_sweepAll_65 ?_
              refine z_if_gt (tgt := 71) hx dX1_sweepAll_66 (by decide) (fun h66 => ?_) (fun h66 => ?_)
              · skip
                have hst := (hT.2.2.2 k h53 hKD).1
                have hpos : 0 < D (k + 1) := by rw [hst.1]; exact (zlt64 ⟨by decide, by decide⟩ (by rw [← hst.1]; exact hst.2.2)).mp (zcmpgt h66)
                refine z_aload_n hx 1 dX1_sweepAll_71 rfl rfl ?_
                refine z_iload_n hx 0 dX1_sweepAll_72 rfl rfl ?_
                refine z_iload_n hx 2 dX1_sweepAll_73 rfl rfl ?_
                refine z_if_eq_d (tgt := 81) hx dX1_sweepAll_74 (by decide) (fun h74 => ?_) (fun h74 => ?_)
                · skip
                  have hw := h74
                  refine z_iload_n hx 0 dX1_sweepAll_81 rfl rfl ?_
                  refine z_iconst hx (v := nI 1) dX1_sweepAll_82 (by decide +kernel) ?_
                  refine z_iadd_n hx dX1_sweepAll_83 ?_
                  refine z_callV hx (As := [.int (nI k), .int (nI (k + 1))]) (st := []) (k_X1_sweep hI N2 (p := k) (f := k + 1) (by rw [hK1]; exact h5) hu (by omega) (by omega) hK6 (by have := hKD k (Nat.le_refl _); intro z; have z2 := (zeq64 (zTab_rg hT hk (fun j hj => hKD j (by omega))) (b := 0) ⟨by decide, by decide⟩).mp z; omega)) zw_400 zy_X1_sweep ⟨rfl, rfl⟩ (by decide) (zOB_X1 E) rfl rfl rfl rfl (Nat.le_of_ble_eq_true rfl) dX1_sweepAll_84 ?_
                  rintro _ M84 ⟨rfl, q84⟩
                  show zJ E x 87 _ [] _
                  refine z_iinc hx (w := nI (k + 1)) (lv2 := [(2, .int (nI (k + 1))), (0, .ref (E.2.2.2 7)), (1, .int (zdr wh))]) 0 dX1_sweepAll_87 rfl (z_inc _) (by decide) rfl ?_
                  refine z_goto (tgt := 48) hx dX1_sweepAll_90 (by decide) ?_
                  exact z_to (ih48 (k + 1) M84 (by omega) (by rw [q84.1]; exact hK1) (zfr_tr hKf q84.2.2.1) (fun j hj => by rcases Nat.lt_or_ge j (k + 1) with z | z; exact hKD j (by omega); rw [show j = k + 1 by omega]; exact hpos) (by rw [q84.2.1, hKs k k (Nat.le_refl _) (by omega) (Or.inr (Nat.le_refl _)), hst.1]) (zTab_one (wh := wh) hT h53 hKD (zTab_rg hT hk (fun j hj => hKD j (by omega))) hpos hKs (by intro a b z1 z2; rw [q84.2.2.2 a b z1 z2]; rw [hw]; simp only [Bool.false_eq_true, if_false])) (by omega)) [0, 1, 2] rfl rfl
                · skip
                  have hw := h74
                  refine z_iconst hx (v := nI 0) dX1_sweepAll_77 (by decide +kernel) ?_
                  refine z_goto (tgt := 84) hx dX1_sweepAll_78 (by decide) ?_
                  refine z_callV hx (As := [.int (nI k), .int (nI 0)]) (st := []) (k_X1_sweep hI N2 (p := k) (f := 0) (by rw [hK1]; exact h5) hu (by omega) (by omega) hK6 (by have := hKD k (Nat.le_refl _); intro z; have z2 := (zeq64 (zTab_rg hT hk (fun j hj => hKD j (by omega))) (b := 0) ⟨by decide, by decide⟩).mp z; omega)) zw_400 zy_X1_sweep ⟨rfl, rfl⟩ (by decide) (zOB_X1 E) rfl rfl rfl rfl (Nat.le_of_ble_eq_true rfl) dX1_sweepAll_84 ?_
                  rintro _ M84 ⟨rfl, q84⟩
                  show zJ E x 87 _ [] _
                  refine z_iinc hx (w := nI (k + 1)) (lv2 := [(2, .int (nI (k + 1))), (0, .ref (E.2.2.2 7)), (1, .int (zdr wh))]) 0 dX1_sweepAll_87 rfl (z_inc _) (by decide) rfl ?_
                  refine z_goto (tgt := 48) hx dX1_sweepAll_90 (by decide) ?_
                  exact z_to (ih48 (k + 1) M84 (by omega) (by rw [q84.1]; exact hK1) (zfr_tr hKf q84.2.2.1) (fun j hj => by rcases Nat.lt_or_ge j (k + 1) with z | z; exact hKD j (by omega); rw [show j = k + 1 by omega]; exact hpos) (by rw [q84.2.1, hKs k k (Nat.le_refl _) (by omega) (Or.inr (Nat.le_refl _)), hst.1]) (zTab_one (wh := wh) hT h53 hKD (zTab_rg hT hk (fun j hj => hKD j (by omega))) hpos hKs (by intro a b z1 z2; rw [q84.2.2.2 a b z1 z2]; rw [hw]; simp only [if_true])) (by omega)) [0, 1, 2] rfl rfl
              · skip
                have hst := (hT.2.2.2 k h53 hKD).1
                have hz : D (k + 1) = 0 := by
                  have h : ¬ 0 < D (k + 1) := fun q => zcmpngt h66 ((zlt64 (a := 0) ⟨by decide, by decide⟩ (by rw [← hst.1]; exact hst.2.2)).mpr (by rw [← hst.1]; exact q))
                  have := hst.2.1
                  omega
                refine z_iconst hx (v := nI 0) dX1_sweepAll_69 (by decide +kernel) ?_
                exact rz _ _ _ _ rfl (Or.inl rfl) ⟨_, rfl, ⟨Or.inr ⟨rfl, k + 1, by omega, by omega, fun j hj => hKD j (by omega), hz⟩, hK1, hKf⟩⟩ dX1_sweepAll_70
        exact z_to (loop48 _ 0 (zputJ N 7 6 1) (by omega) hN1 (zfr_tr (zfr_w hNf (fun c h => Or.inr h)) (zfr_putJ (Or.inl rfl))) (fun j hj => by rw [show j = 0 by omega, hT.1]; decide) (by rw [hT.1]; exact zhtJ) (fun p q z1 z2 z3 => by rw [zg_putJ, if_neg (by omega), hNs p q (by omega) z1 z2, hT.2.2.1 p q z1 z2]) (Nat.lt_succ_self _)) [0, 1, 2] rfl rfl
      · skip
        refine z_aload_n hx 1 dX1_sweepAll_10 rfl rfl ?_
        refine zg_X1_0 hx zw_131 dX1_sweepAll_11 ?_
        refine z_iload_n hx 0 dX1_sweepAll_14 rfl rfl ?_
        refine z_aald_n hx (zRA_8 E) (by omega) dX1_sweepAll_15 ?_
        refine z_iload_n hx 0 dX1_sweepAll_16 rfl rfl ?_
        refine z_aload_n hx 1 dX1_sweepAll_17 rfl rfl ?_
        refine zg_X1_1 hx zw_132 dX1_sweepAll_18 ?_
        refine z_iload_n hx 0 dX1_sweepAll_21 rfl rfl ?_
        refine z_aald_n hx (zRA_9 E) (by omega) dX1_sweepAll_22 ?_
        refine z_iload_n hx 0 dX1_sweepAll_23 rfl rfl ?_
        refine z_aload_n hx 1 dX1_sweepAll_24 rfl rfl ?_
        refine zg_X1_5 hx zw_136 dX1_sweepAll_25 ?_
        refine z_eqi (show N.1 7 5 = nI u by rw [hN1]; exact h5) ?_
        refine z_iconst hx (v := nI 1) dX1_sweepAll_28 (by decide +kernel) ?_
        refine z_iadd_n hx dX1_sweepAll_29 ?_
        refine z_iload_n hx 0 dX1_sweepAll_30 rfl rfl ?_
        refine z_isub_n hx (by omega) dX1_sweepAll_31 ?_
        refine z_copyl hx (c0 := 15 + 1 * i) (c1 := 21 + 1 * i) (zJA_row (by omega) (by omega) E).1 (zJA_row (by omega) (by omega) E).1 ((zJA_row (by omega) (by omega) E).2.2 _ _) (fun g => (zJA_row (by omega) (by omega) E).2.2 _ g) zw_399 (nI_pos (by omega)) (nI_pos (by omega)) (nI_pos (by omega)) (by rw [nI_clamp (by omega), nI_clamp (by omega)]; omega) (by rw [nI_clamp (by omega), nI_clamp (by omega)]; omega) (by decide) (by decide) dX1_sweepAll_32 ?_
        refine z_iinc hx (w := nI (i + 1)) (lv2 := [(2, .int (nI (i + 1))), (0, .ref (E.2.2.2 7)), (1, .int (zdr wh))]) 0 dX1_sweepAll_35 rfl (z_inc _) (by decide) rfl ?_
        refine z_goto (tgt := 2) hx dX1_sweepAll_38 (by decide) ?_
        exact z_to (ih2 (i + 1) (zsetJ N (21 + 1 * i) (va_cpy (N.2 (15 + 1 * i)) (N.2 (21 + 1 * i)) (nI i).toNatClampNeg (nI i).toNatClampNeg (nI ((u + 1) - i)).toNatClampNeg)) (by omega) hN1 (zfr_tr hNf (zfr_setJ (by omega))) (fun p q z1 z2 z3 => by
            rw [zg_setJ]
            by_cases e : p = i
            · subst e
              rw [if_pos rfl, nI_clamp (by omega), nI_clamp (by omega), va_cpy, if_pos (by omega), (hNf _ (by omega)).2, show p + (q - p) = q by omega]
              exact hB p q z2 z3
            · rw [if_neg (by omega)]
              exact hNs p q (by omega) z2 z3) (by omega)) [0, 1, 2] rfl rfl
  exact z_to (loop2 _ 0 M (by omega) rfl (zfr_rf _ _) (fun p q h => by omega) (Nat.lt_succ_self _)) [0, 1, 2] rfl rfl
end
section
def zTb (u : Nat) (B : Nat → Nat → Int) (T : Nat → Nat → Nat → Int) (D : Nat → Int) : Prop := zTab u B T D ∧ ∀ k, k ≤ u → D k = 0 → D u = 0
/-- what is gathered: sums of products over the weighings of S -/
def zGr (w mm : Nat) (d : Bool) (cd : Nat → Nat) (rd : Nat → Int) (n : Nat) (S : Nat → Bool) (p q : Nat) : Int := zS n (fun t => if S t then zLn w mm d (cd t) (rd t) t p * zLn w mm d (cd t) (rd t) t q else 0)
theorem zGr_all (w mm : Nat) (d : Bool) (cd : Nat → Nat) (rd : Nat → Int) (n : Nat) (p q : Nat) : zGr w mm d cd rd n (fun _ => true) p q = zS n (fun t => zLn w mm d (cd t) (rd t) t p * zLn w mm d (cd t) (rd t) t q) := zS_cong (fun k _ => by simp)
theorem zGr_sw {w mm : Nat} {d : Bool} {cd : Nat → Nat} {rd : Nat → Int} {n : Nat} {t : Nat} (ht : t < n) (p q : Nat) : zGr w mm d cd rd n (fun k => !decide (k = t)) p q = zGr w mm d cd rd n (fun _ => true) p q - zLn w mm d (cd t) (rd t) t p * zLn w mm d (cd t) (rd t) t q := by
  unfold zGr
  induction n with
  | zero => omega
  | succ n ih =>
    rw [zS, zS]
    by_cases e : t = n
    · subst e
      have : zS t (fun k => if (!decide (k = t)) = true then zLn w mm d (cd k) (rd k) k p * zLn w mm d (cd k) (rd k) k q else 0) = zS t (fun k => if true = true then zLn w mm d (cd k) (rd k) k p * zLn w mm d (cd k) (rd k) k q else 0) := zS_cong (fun k hk => by
        have : ¬ k = t := by omega
        simp [this])
      rw [this]
      simp
      try omega
    · rw [ih (by omega)]
      have : ¬ n = t := fun z => e z.symm
      simp [this]
      try omega
theorem zTb_0 {u : Nat} {B : Nat → Nat → Int} {T : Nat → Nat → Nat → Int} {D : Nat → Int} (h : zTb u B T D) {k : Nat} (h1 : k ≤ u) (h2 : D k = 0) : D u = 0 := h.2 k h1 h2
set_option maxHeartbeats 4000000 in
set_option maxRecDepth 100000 in
theorem k_X1_solves {E : zE} (hI : zI E) (M : zM) {a w n mm : Nat} {cd : Nat → Nat} {rd : Nat → Int} (ha : zRoom a) (hR : zRm M a w n mm cd rd) (d : Bool) {T : Nat → Nat → Nat → Int} {D : Nat → Int} (hT : zTb (zunk w d) (zGr w mm d cd rd n (fun _ => true)) T D) : zK E yX1_solves (.code yX1_solves cX1_solves 3 (some .boolean)) (zrm 4 97) [.ref (E.2.2.2 7), .ref (E.2.2.2 a), .int (zdr d)] M (zpi (fun v M2 => ((v = nI 1 ∧ 0 < D (zunk w d) ∧ M2.2 7 6 = Int64.ofInt (D (zunk w d)) ∧ (∀ i j, i ≤ j → j ≤ zunk w d → M2.2 (21 + 1 * i) j = Int64.ofInt (T (zunk w d) i j))) ∨ (v = nI 0 ∧ D (zunk w d) = 0)) ∧ M2.1 7 3 = zdr d ∧ M2.1 7 4 = nI w ∧ M2.1 7 5 = nI (zunk w d) ∧ zfr (fun c => c = 7 ∨ c = 10 ∨ 15 ≤ c ∧ c ≤ 26) M M2)) := by
  refine zK_of hI (by decide) (Nat.le_of_ble_eq_true rfl) (fun x hx ri rz rl rv => ?_)
  show zJ E x 0 [(0, .ref (E.2.2.2 7)), (1, .ref (E.2.2.2 a)), (2, .int (zdr d))] [] M
  have hu := zunk_le hR.2.1.2 d
  refine z_aload_n hx 0 dX1_solves_0 rfl rfl ?_
  refine z_aload_n hx 1 dX1_solves_1 rfl rfl ?_
  refine z_iload_n hx 2 dX1_solves_2 rfl rfl ?_
  refine z_callV hx (As := [.ref (E.2.2.2 a), .int (zdr d)]) (st := []) (k_X1_gather hI M ha hR d) zw_385 zy_X1_gather ⟨rfl, rfl⟩ (by decide) (zOB_X1 E) rfl rfl rfl rfl (Nat.le_of_ble_eq_true rfl) dX1_solves_3 ?_
  rintro _ M3 ⟨rfl, q3⟩
  show zJ E x 6 _ [] _
  refine z_aload_n hx 0 dX1_solves_6 rfl rfl ?_
  refine z_iconst hx (v := nI 1) dX1_solves_7 (by decide +kernel) ?_
  refine z_callV hx (As := [.int (nI 1)]) (st := []) (k_X1_sweepAll hI M3 (wh := true) hT.1 q3.2.2.1 hu (fun p q z1 z2 => by rw [q3.2.2.2.2 p q z1 z2, zGr_all])) zw_395 zy_X1_sweepAll ⟨rfl, rfl⟩ (by decide) (zOB_X1 E) rfl rfl rfl rfl (Nat.le_of_ble_eq_true rfl) dX1_solves_8 ?_
  rintro _ M8 ⟨v8, rfl, q8⟩
  obtain ⟨q8, q8b, q8c⟩ := q8
  rcases q8 with ⟨rfl, q8⟩ | ⟨rfl, k, k1, k2, k3, k4⟩
  · skip
    show zJ E x 11 _ [.int (nI 1)] _
    skip
    exact rz _ _ _ _ rfl (Or.inr rfl) ⟨_, rfl, ⟨Or.inl ⟨rfl, q8.1 _ (Nat.le_refl _), q8.2.1, q8.2.2.1 rfl⟩, by rw [q8b]; exact q3.1, by rw [q8b]; exact q3.2.1, by rw [q8b]; exact q3.2.2.1, zfr_tr (zfr_w q3.2.2.2.1 (fun c h => by omega)) (zfr_w q8c (fun c h => by omega))⟩⟩ dX1_solves_11
  · skip
    show zJ E x 11 _ [.int (nI 0)] _
    have hz := zTb_0 hT k2 k4
    exact rz _ _ _ _ rfl (Or.inl rfl) ⟨_, rfl, ⟨Or.inr ⟨rfl, hz⟩, by rw [q8b]; exact q3.1, by rw [q8b]; exact q3.2.1, by rw [q8b]; exact q3.2.2.1, zfr_tr (zfr_w q3.2.2.2.1 (fun c h => by omega)) (zfr_w q8c (fun c h => by omega))⟩⟩ dX1_solves_11
theorem zpm_m (b x y : Int) : Int64.ofInt b + (-1 : Int32).toInt64 * Int64.ofInt x * Int64.ofInt y = Int64.ofInt (b - x * y) := by
  rw [show (-1 : Int32).toInt64 = Int64.ofInt (-1) by decide +kernel, zI64_mul, zI64_mul, zI64_add]
  congr 1
  rw [Int.neg_one_mul, Int.neg_mul]
  rfl
theorem zpm_p (b x y : Int) : Int64.ofInt b + (nI 1).toInt64 * Int64.ofInt x * Int64.ofInt y = Int64.ofInt (b + x * y) := by
  rw [show (nI 1).toInt64 = 1 by decide +kernel, Int64.one_mul, zI64_mul, zI64_add]
theorem zpm_back (b : Int64) (x y : Int) : b + (-1 : Int32).toInt64 * Int64.ofInt x * Int64.ofInt y + (nI 1).toInt64 * Int64.ofInt x * Int64.ofInt y = b := by
  rw [show (nI 1).toInt64 = 1 by decide +kernel, show (-1 : Int32).toInt64 = Int64.ofInt (-1) by decide +kernel, Int64.one_mul, ← Int64.ofInt_toInt b, zI64_mul, zI64_mul, zI64_mul, zI64_add, zI64_add]
  congr 1
  rw [Int.neg_one_mul, Int.neg_mul]
  omega
theorem zpm_back2 (b : Int64) (x y : Int) : b + (nI 1).toInt64 * Int64.ofInt x * Int64.ofInt y + (-1 : Int32).toInt64 * Int64.ofInt x * Int64.ofInt y = b := by
  rw [show (nI 1).toInt64 = 1 by decide +kernel, show (-1 : Int32).toInt64 = Int64.ofInt (-1) by decide +kernel, Int64.one_mul, ← Int64.ofInt_toInt b, zI64_mul, zI64_mul, zI64_mul, zI64_add, zI64_add]
  congr 1
  rw [Int.neg_one_mul, Int.neg_mul]
  omega
set_option maxHeartbeats 4000000 in
set_option maxRecDepth 100000 in
theorem k_X1_solvesWithout {E : zE} (hI : zI E) (M : zM) {a w n mm t : Nat} {cd : Nat → Nat} {rd : Nat → Int} {B : Nat → Nat → Int} (ha : zRoom a) (hR : zRm M a w n mm cd rd) (ht : t < n) (d : Bool) (h73 : M.1 7 3 = zdr d) (h75 : M.1 7 5 = nI (zunk w d)) (hB : ∀ p q, p ≤ q → q ≤ zunk w d → M.2 (15 + 1 * p) q = Int64.ofInt (B p q)) {T : Nat → Nat → Nat → Int} {D : Nat → Int} (hT : zTb (zunk w d) (fun p q => B p q - zLn w mm d (cd t) (rd t) t p * zLn w mm d (cd t) (rd t) t q) T D) : zK E yX1_solvesWithout (.code yX1_solvesWithout cX1_solvesWithout 4 (some .boolean)) (zrm 3 76) [.ref (E.2.2.2 7), .ref (E.2.2.2 a), .int (nI t)] M (zpi (fun v M2 => ((v = nI 1 ∧ 0 < D (zunk w d) ∧ M2.2 7 6 = Int64.ofInt (D (zunk w d)) ∧ M2.2 (21 + 1 * zunk w d) (zunk w d) = Int64.ofInt (T (zunk w d) (zunk w d) (zunk w d))) ∨ (v = nI 0 ∧ D (zunk w d) = 0)) ∧ M2.1 7 = M.1 7 ∧ zfr (fun c => c = 7 ∨ c = 10 ∨ 15 ≤ c ∧ c ≤ 26) M M2 ∧ ∀ p q, p ≤ q → q ≤ zunk w d → M2.2 (15 + 1 * p) q = M.2 (15 + 1 * p) q)) := by
  refine zK_of hI (by decide) (Nat.le_of_ble_eq_true rfl) (fun x hx ri rz rl rv => ?_)
  show zJ E x 0 [(0, .ref (E.2.2.2 7)), (1, .ref (E.2.2.2 a)), (2, .int (nI t))] [] M
  have hu := zunk_le hR.2.1.2 d
  have hge := zRoom_ge ha
  refine z_aload_n hx 0 dX1_solvesWithout_0 rfl rfl ?_
  refine z_aload_n hx 1 dX1_solvesWithout_1 rfl rfl ?_
  refine z_iload_n hx 2 dX1_solvesWithout_2 rfl rfl ?_
  refine z_iconst hx (v := (-1)) dX1_solvesWithout_3 rfl ?_
  refine z_callV hx (As := [.ref (E.2.2.2 a), .int (nI t), .int (-1)]) (st := []) (k_X1_putR hI M ha hR ht d h73 h75 (-1)) zw_390 zy_X1_put ⟨rfl, rfl⟩ (by decide) (zOB_X1 E) rfl rfl rfl rfl (Nat.le_of_ble_eq_true rfl) dX1_solvesWithout_4 ?_
  rintro _ M4 ⟨rfl, q4⟩
  show zJ E x 7 _ [] _
  refine z_aload_n hx 0 dX1_solvesWithout_7 rfl rfl ?_
  refine z_iconst hx (v := nI 0) dX1_solvesWithout_8 (by decide +kernel) ?_
  refine z_callV hx (As := [.int (nI 0)]) (st := []) (k_X1_sweepAll hI M4 (wh := false) hT.1 (by rw [(q4.2 7 (by omega)).1]; exact h75) hu (fun p q z1 z2 => by rw [q4.1 p q z1 z2, hB p q z1 z2]; exact zpm_m _ _ _)) zw_395 zy_X1_sweepAll ⟨rfl, rfl⟩ (by decide) (zOB_X1 E) rfl rfl rfl rfl (Nat.le_of_ble_eq_true rfl) dX1_solvesWithout_9 ?_
  rintro _ M9 ⟨v9, rfl, q9⟩
  obtain ⟨q9, q9b, q9c⟩ := q9
  rcases q9 with ⟨rfl, q9⟩ | ⟨rfl, k, k1, k2, k3, k4⟩
  · skip
    show zJ E x 12 _ [.int (nI 1)] _
    skip
    refine z_istore_n hx (lv2 := [(3, .int (nI 1)), (0, .ref (E.2.2.2 7)), (1, .ref (E.2.2.2 a)), (2, .int (nI t))]) dX1_solvesWithout_12 rfl (by decide) rfl ?_
    refine z_aload_n hx 1 dX1_solvesWithout_13 rfl rfl ?_
    refine z_aload_n hx 2 dX1_solvesWithout_14 rfl rfl ?_
    refine z_iload_n hx 3 dX1_solvesWithout_15 rfl rfl ?_
    refine z_iconst hx (v := nI 1) dX1_solvesWithout_16 (by decide +kernel) ?_
    refine z_callV hx (As := [.ref (E.2.2.2 a), .int (nI t), .int (nI 1)]) (st := []) (k_X1_putR hI M9 ha (zRm_fr (zRm_fr hR q4.2 (by omega) (by omega) (by omega)) q9c (by omega) (by omega) (by omega)) ht d (by rw [q9b, (q4.2 7 (by omega)).1]; exact h73) (by rw [q9b, (q4.2 7 (by omega)).1]; exact h75) (nI 1)) zw_390 zy_X1_put ⟨rfl, rfl⟩ (by decide) (zOB_X1 E) rfl rfl rfl rfl (Nat.le_of_ble_eq_true rfl) dX1_solvesWithout_17 ?_
    rintro _ M17 ⟨rfl, q17⟩
    show zJ E x 20 _ [] _
    refine z_iload_n hx 0 dX1_solvesWithout_20 rfl rfl ?_
    exact rz _ _ _ _ rfl (Or.inr rfl) ⟨_, rfl, ⟨Or.inl ⟨rfl, q9.1 _ (Nat.le_refl _), by rw [(q17.2 7 (by omega)).2]; exact q9.2.1, (by rw [(q17.2 _ (by omega)).2]; exact q9.2.2.2)⟩, (q17.2 7 (by omega)).1.trans (q9b.trans (q4.2 7 (by omega)).1), zfr_tr (zfr_w q4.2 (fun c h => by omega)) (zfr_tr (zfr_w q9c (fun c h => by omega)) (zfr_w q17.2 (fun c h => by omega))), fun p q z1 z2 => by
        rw [q17.1 p q z1 z2, (q9c _ (by omega)).2, q4.1 p q z1 z2]
        exact zpm_back _ _ _⟩⟩ dX1_solvesWithout_21
  · skip
    show zJ E x 12 _ [.int (nI 0)] _
    have hz := zTb_0 hT k2 k4
    refine z_istore_n hx (lv2 := [(3, .int (nI 0)), (0, .ref (E.2.2.2 7)), (1, .ref (E.2.2.2 a)), (2, .int (nI t))]) dX1_solvesWithout_12 rfl (by decide) rfl ?_
    refine z_aload_n hx 1 dX1_solvesWithout_13 rfl rfl ?_
    refine z_aload_n hx 2 dX1_solvesWithout_14 rfl rfl ?_
    refine z_iload_n hx 3 dX1_solvesWithout_15 rfl rfl ?_
    refine z_iconst hx (v := nI 1) dX1_solvesWithout_16 (by decide +kernel) ?_
    refine z_callV hx (As := [.ref (E.2.2.2 a), .int (nI t), .int (nI 1)]) (st := []) (k_X1_putR hI M9 ha (zRm_fr (zRm_fr hR q4.2 (by omega) (by omega) (by omega)) q9c (by omega) (by omega) (by omega)) ht d (by rw [q9b, (q4.2 7 (by omega)).1]; exact h73) (by rw [q9b, (q4.2 7 (by omega)).1]; exact h75) (nI 1)) zw_390 zy_X1_put ⟨rfl, rfl⟩ (by decide) (zOB_X1 E) rfl rfl rfl rfl (Nat.le_of_ble_eq_true rfl) dX1_solvesWithout_17 ?_
    rintro _ M17 ⟨rfl, q17⟩
    show zJ E x 20 _ [] _
    refine z_iload_n hx 0 dX1_solvesWithout_20 rfl rfl ?_
    exact rz _ _ _ _ rfl (Or.inl rfl) ⟨_, rfl, ⟨Or.inr ⟨rfl, hz⟩, (q17.2 7 (by omega)).1.trans (q9b.trans (q4.2 7 (by omega)).1), zfr_tr (zfr_w q4.2 (fun c h => by omega)) (zfr_tr (zfr_w q9c (fun c h => by omega)) (zfr_w q17.2 (fun c h => by omega))), fun p q z1 z2 => by
        rw [q17.1 p q z1 z2, (q9c _ (by omega)).2, q4.1 p q z1 z2]
        exact zpm_back _ _ _⟩⟩ dX1_solvesWithout_21
set_option maxHeartbeats 4000000 in
set_option maxRecDepth 100000 in
theorem k_X1_solvesWith {E : zE} (hI : zI E) (M : zM) {a w n mm t : Nat} {cd : Nat → Nat} {rd : Nat → Int} {B : Nat → Nat → Int} (ha : zRoom a) (hR : zRm M a w n mm cd rd) (ht : t < n) (d : Bool) (h73 : M.1 7 3 = zdr d) (h75 : M.1 7 5 = nI (zunk w d)) (hB : ∀ p q, p ≤ q → q ≤ zunk w d → M.2 (15 + 1 * p) q = Int64.ofInt (B p q)) {T : Nat → Nat → Nat → Int} {D : Nat → Int} (hT : zTb (zunk w d) (fun p q => B p q + zLn w mm d (cd t) (rd t) t p * zLn w mm d (cd t) (rd t) t q) T D) : zK E yX1_solvesWith (.code yX1_solvesWith cX1_solvesWith 4 (some .boolean)) (zrm 3 76) [.ref (E.2.2.2 7), .ref (E.2.2.2 a), .int (nI t)] M (zpi (fun v M2 => ((v = nI 1 ∧ 0 < D (zunk w d) ∧ M2.2 7 6 = Int64.ofInt (D (zunk w d)) ∧ (∀ i j, i ≤ j → j ≤ zunk w d → M2.2 (21 + 1 * i) j = Int64.ofInt (T (zunk w d) i j))) ∨ (v = nI 0 ∧ D (zunk w d) = 0)) ∧ M2.1 7 = M.1 7 ∧ zfr (fun c => c = 7 ∨ c = 10 ∨ 15 ≤ c ∧ c ≤ 26) M M2 ∧ ∀ p q, p ≤ q → q ≤ zunk w d → M2.2 (15 + 1 * p) q = M.2 (15 + 1 * p) q)) := by
  refine zK_of hI (by decide) (Nat.le_of_ble_eq_true rfl) (fun x hx ri rz rl rv => ?_)
  show zJ E x 0 [(0, .ref (E.2.2.2 7)), (1, .ref (E.2.2.2 a)), (2, .int (nI t))] [] M
  have hu := zunk_le hR.2.1.2 d
  have hge := zRoom_ge ha
  refine z_aload_n hx 0 dX1_solvesWith_0 rfl rfl ?_
  refine z_aload_n hx 1 dX1_solvesWith_1 rfl rfl ?_
  refine z_iload_n hx 2 dX1_solvesWith_2 rfl rfl ?_
  refine z_iconst hx (v := nI 1) dX1_solvesWith_3 (by decide +kernel) ?_
  refine z_callV hx (As := [.ref (E.2.2.2 a), .int (nI t), .int (nI 1)]) (st := []) (k_X1_putR hI M ha hR ht d h73 h75 (nI 1)) zw_390 zy_X1_put ⟨rfl, rfl⟩ (by decide) (zOB_X1 E) rfl rfl rfl rfl (Nat.le_of_ble_eq_true rfl) dX1_solvesWith_4 ?_
  rintro _ M4 ⟨rfl, q4⟩
  show zJ E x 7 _ [] _
  refine z_aload_n hx 0 dX1_solvesWith_7 rfl rfl ?_
  refine z_iconst hx (v := nI 1) dX1_solvesWith_8 (by decide +kernel) ?_
  refine z_callV hx (As := [.int (nI 1)]) (st := []) (k_X1_sweepAll hI M4 (wh := true) hT.1 (by rw [(q4.2 7 (by omega)).1]; exact h75) hu (fun p q z1 z2 => by rw [q4.1 p q z1 z2, hB p q z1 z2]; exact zpm_p _ _ _)) zw_395 zy_X1_sweepAll ⟨rfl, rfl⟩ (by decide) (zOB_X1 E) rfl rfl rfl rfl (Nat.le_of_ble_eq_true rfl) dX1_solvesWith_9 ?_
  rintro _ M9 ⟨v9, rfl, q9⟩
  obtain ⟨q9, q9b, q9c⟩ := q9
  rcases q9 with ⟨rfl, q9⟩ | ⟨rfl, k, k1, k2, k3, k4⟩
  · skip
    show zJ E x 12 _ [.int (nI 1)] _
    skip
    refine z_istore_n hx (lv2 := [(3, .int (nI 1)), (0, .ref (E.2.2.2 7)), (1, .ref (E.2.2.2 a)), (2, .int (nI t))]) dX1_solvesWith_12 rfl (by decide) rfl ?_
    refine z_aload_n hx 1 dX1_solvesWith_13 rfl rfl ?_
    refine z_aload_n hx 2 dX1_solvesWith_14 rfl rfl ?_
    refine z_iload_n hx 3 dX1_solvesWith_15 rfl rfl ?_
    refine z_iconst hx (v := (-1)) dX1_solvesWith_16 rfl ?_
    refine z_callV hx (As := [.ref (E.2.2.2 a), .int (nI t), .int (-1)]) (st := []) (k_X1_putR hI M9 ha (zRm_fr (zRm_fr hR q4.2 (by omega) (by omega) (by omega)) q9c (by omega) (by omega) (by omega)) ht d (by rw [q9b, (q4.2 7 (by omega)).1]; exact h73) (by rw [q9b, (q4.2 7 (by omega)).1]; exact h75) (-1)) zw_390 zy_X1_put ⟨rfl, rfl⟩ (by decide) (zOB_X1 E) rfl rfl rfl rfl (Nat.le_of_ble_eq_true rfl) dX1_solvesWith_17 ?_
    rintro _ M17 ⟨rfl, q17⟩
    show zJ E x 20 _ [] _
    refine z_iload_n hx 0 dX1_solvesWith_20 rfl rfl ?_
    exact rz _ _ _ _ rfl (Or.inr rfl) ⟨_, rfl, ⟨Or.inl ⟨rfl, q9.1 _ (Nat.le_refl _), by rw [(q17.2 7 (by omega)).2]; exact q9.2.1, (fun i j z1 z2 => by rw [(q17.2 _ (by omega)).2]; exact q9.2.2.1 rfl i j z1 z2)⟩, (q17.2 7 (by omega)).1.trans (q9b.trans (q4.2 7 (by omega)).1), zfr_tr (zfr_w q4.2 (fun c h => by omega)) (zfr_tr (zfr_w q9c (fun c h => by omega)) (zfr_w q17.2 (fun c h => by omega))), fun p q z1 z2 => by
        rw [q17.1 p q z1 z2, (q9c _ (by omega)).2, q4.1 p q z1 z2]
        exact zpm_back2 _ _ _⟩⟩ dX1_solvesWith_21
  · skip
    show zJ E x 12 _ [.int (nI 0)] _
    have hz := zTb_0 hT k2 k4
    refine z_istore_n hx (lv2 := [(3, .int (nI 0)), (0, .ref (E.2.2.2 7)), (1, .ref (E.2.2.2 a)), (2, .int (nI t))]) dX1_solvesWith_12 rfl (by decide) rfl ?_
    refine z_aload_n hx 1 dX1_solvesWith_13 rfl rfl ?_
    refine z_aload_n hx 2 dX1_solvesWith_14 rfl rfl ?_
    refine z_iload_n hx 3 dX1_solvesWith_15 rfl rfl ?_
    refine z_iconst hx (v := (-1)) dX1_solvesWith_16 rfl ?_
    refine z_callV hx (As := [.ref (E.2.2.2 a), .int (nI t), .int (-1)]) (st := []) (k_X1_putR hI M9 ha (zRm_fr (zRm_fr hR q4.2 (by omega) (by omega) (by omega)) q9c (by omega) (by omega) (by omega)) ht d (by rw [q9b, (q4.2 7 (by omega)).1]; exact h73) (by rw [q9b, (q4.2 7 (by omega)).1]; exact h75) (-1)) zw_390 zy_X1_put ⟨rfl, rfl⟩ (by decide) (zOB_X1 E) rfl rfl rfl rfl (Nat.le_of_ble_eq_true rfl) dX1_solvesWith_17 ?_
    rintro _ M17 ⟨rfl, q17⟩
    show zJ E x 20 _ [] _
    refine z_iload_n hx 0 dX1_solvesWith_20 rfl rfl ?_
    exact rz _ _ _ _ rfl (Or.inl rfl) ⟨_, rfl, ⟨Or.inr ⟨rfl, hz⟩, (q17.2 7 (by omega)).1.trans (q9b.trans (q4.2 7 (by omega)).1), zfr_tr (zfr_w q4.2 (fun c h => by omega)) (zfr_tr (zfr_w q9c (fun c h => by omega)) (zfr_w q17.2 (fun c h => by omega))), fun p q z1 z2 => by
        rw [q17.1 p q z1 z2, (q9c _ (by omega)).2, q4.1 p q z1 z2]
        exact zpm_back2 _ _ _⟩⟩ dX1_solvesWith_21
set_option maxHeartbeats 4000000 in
set_option maxRecDepth 100000 in
theorem k_X1_valueAbove {E : zE} (hI : zI E) (M : zM) {u i : Nat} {T : Nat → Nat → Int} (h5 : M.1 7 5 = nI u) (hu : u ≤ 5) (hi : i ≤ u) (hT : ∀ i j, i ≤ j → j ≤ u → M.2 (21 + 1 * i) j = Int64.ofInt (T i j)) : zK E yX1_valueAbove (.code yX1_valueAbove cX1_valueAbove 2 (some .long)) (zrm 0 0) [.ref (E.2.2.2 7), .int (nI i)] M (zpl (fun v M2 => v = Int64.ofInt (T i u) ∧ M2 = M)) := by
  refine zK_of hI (by decide) (Nat.le_of_ble_eq_true rfl) (fun x hx ri rz rl rv => ?_)
  show zJ E x 0 [(0, .ref (E.2.2.2 7)), (1, .int (nI i))] [] M
  refine z_aload_n hx 0 dX1_valueAbove_0 rfl rfl ?_
  refine zg_X1_1 hx zw_132 dX1_valueAbove_1 ?_
  refine z_iload_n hx 1 dX1_valueAbove_4 rfl rfl ?_
  refine z_aald_n hx (zRA_9 E) (by omega) dX1_valueAbove_5 ?_
  refine z_aload_n hx 0 dX1_valueAbove_6 rfl rfl ?_
  refine zg_X1_5 hx zw_136 dX1_valueAbove_7 ?_
  refine z_eqi h5 ?_
  refine z_lald_n hx (zJA_row (by omega) (by omega) E) (by omega) dX1_valueAbove_10 ?_
  exact rl _ _ _ _ rfl ⟨_, rfl, ⟨hT i u hi (Nat.le_refl _), rfl⟩⟩ dX1_valueAbove_11
set_option maxHeartbeats 4000000 in
set_option maxRecDepth 100000 in
theorem k_X1_spreadAbove {E : zE} (hI : zI E) (M : zM) {u i : Nat} {T : Nat → Nat → Int} (hu : u ≤ 5) (hi : i ≤ u) (hT : ∀ i j, i ≤ j → j ≤ u → M.2 (21 + 1 * i) j = Int64.ofInt (T i j)) : zK E yX1_spreadAbove (.code yX1_spreadAbove cX1_spreadAbove 2 (some .long)) (zrm 0 0) [.ref (E.2.2.2 7), .int (nI i)] M (zpl (fun v M2 => v = Int64.ofInt (-T i i) ∧ M2 = M)) := by
  refine zK_of hI (by decide) (Nat.le_of_ble_eq_true rfl) (fun x hx ri rz rl rv => ?_)
  show zJ E x 0 [(0, .ref (E.2.2.2 7)), (1, .int (nI i))] [] M
  refine z_aload_n hx 0 dX1_spreadAbove_0 rfl rfl ?_
  refine zg_X1_1 hx zw_132 dX1_spreadAbove_1 ?_
  refine z_iload_n hx 1 dX1_spreadAbove_4 rfl rfl ?_
  refine z_aald_n hx (zRA_9 E) (by omega) dX1_spreadAbove_5 ?_
  refine z_iload_n hx 1 dX1_spreadAbove_6 rfl rfl ?_
  refine z_lald_n hx (zJA_row (by omega) (by omega) E) (by omega) dX1_spreadAbove_7 ?_
  refine z_lneg hx dX1_spreadAbove_8 ?_
  exact rl _ _ _ _ rfl ⟨_, rfl, ⟨by rw [hT i i (Nat.le_refl _) hi, zI64_neg], rfl⟩⟩ dX1_spreadAbove_9
set_option maxHeartbeats 4000000 in
set_option maxRecDepth 100000 in
theorem k_X1_squaresAbove {E : zE} (hI : zI E) (M : zM) {u : Nat} {z : Int} (h5 : M.1 7 5 = nI u) (hu : u ≤ 5) (hT : M.2 (21 + 1 * u) u = Int64.ofInt z) : zK E yX1_squaresAbove (.code yX1_squaresAbove cX1_squaresAbove 1 (some .long)) (zrm 0 0) [.ref (E.2.2.2 7)] M (zpl (fun v M2 => v = Int64.ofInt z ∧ M2 = M)) := by
  refine zK_of hI (by decide) (Nat.le_of_ble_eq_true rfl) (fun x hx ri rz rl rv => ?_)
  show zJ E x 0 [(0, .ref (E.2.2.2 7))] [] M
  refine z_aload_n hx 0 dX1_squaresAbove_0 rfl rfl ?_
  refine zg_X1_1 hx zw_132 dX1_squaresAbove_1 ?_
  refine z_aload_n hx 0 dX1_squaresAbove_4 rfl rfl ?_
  refine zg_X1_5 hx zw_136 dX1_squaresAbove_5 ?_
  refine z_eqi h5 ?_
  refine z_aald_n hx (zRA_9 E) (by omega) dX1_squaresAbove_8 ?_
  refine z_aload_n hx 0 dX1_squaresAbove_9 rfl rfl ?_
  refine zg_X1_5 hx zw_136 dX1_squaresAbove_10 ?_
  refine z_eqi h5 ?_
  refine z_lald_n hx (zJA_row (by omega) (by omega) E) (by omega) dX1_squaresAbove_13 ?_
  exact rl _ _ _ _ rfl ⟨_, rfl, ⟨hT, rfl⟩⟩ dX1_squaresAbove_14
set_option maxHeartbeats 4000000 in
set_option maxRecDepth 100000 in
theorem k_X1_totalAbove {E : zE} (hI : zI E) (M : zM) {u w : Nat} {T : Nat → Nat → Int} (h4 : M.1 7 4 = nI w) (hu : u ≤ 5) (hw : w ≤ u) (hT : ∀ i j, i ≤ j → j ≤ u → M.2 (21 + 1 * i) j = Int64.ofInt (T i j)) : zK E yX1_totalAbove (.code yX1_totalAbove cX1_totalAbove 4 (some .long)) (zrm 1 21) [.ref (E.2.2.2 7)] M (zpl (fun v M2 => v = Int64.ofInt (zS w (fun k => -T k k)) ∧ M2 = M)) := by
  refine zK_of hI (by decide) (Nat.le_of_ble_eq_true rfl) (fun x hx ri rz rl rv => ?_)
  show zJ E x 0 [(0, .ref (E.2.2.2 7))] [] M
  refine z_lconst hx (v := 0) dX1_totalAbove_0 rfl ?_
  refine z_lstore_n hx (lv2 := [(1, .long 0), (0, .ref (E.2.2.2 7))]) dX1_totalAbove_1 rfl (by decide) rfl ?_
  refine z_iconst hx (v := nI 0) dX1_totalAbove_2 (by decide +kernel) ?_
  refine z_istore_n hx (lv2 := [(3, .int (nI 0)), (1, .long 0), (0, .ref (E.2.2.2 7))]) dX1_totalAbove_3 rfl (by decide) rfl ?_
  have loop4 : ∀ (fuel4 : Nat) (i : Nat) (_ : i ≤ w), w - i < fuel4 → zJ E x 4 [(3, .int (nI i)), (1, .long (Int64.ofInt (zS i (fun k => -T k k)))), (0, .ref (E.2.2.2 7))] [] M := by
    intro fuel4
    induction fuel4 with
    | zero =>
      intros; omega
    | succ fuel4 ih4 =>
      intro i hi hfuel4
      refine z_iload_n hx 0 dX1_totalAbove_4 rfl rfl ?_
      refine z_aload_n hx 2 dX1_totalAbove_5 rfl rfl ?_
      refine zg_X1_4 hx zw_135 dX1_totalAbove_6 ?_
      refine z_eqi h4 ?_
      refine z_icmp_ge_n (tgt := 26) hx (by omega) (by omega) dX1_totalAbove_9 (by decide) (fun h9 => ?_) (fun h9 => ?_)
      · skip
        refine z_lload_n hx 1 dX1_totalAbove_26 rfl rfl ?_
        exact rl _ _ _ _ rfl ⟨_, rfl, ⟨by rw [show i = w by omega], rfl⟩⟩ dX1_totalAbove_27
      · skip
        refine z_lload_n hx 1 dX1_totalAbove_12 rfl rfl ?_
        refine z_aload_n hx 2 dX1_totalAbove_13 rfl rfl ?_
        refine z_iload_n hx 0 dX1_totalAbove_14 rfl rfl ?_
        refine z_callV hx (As := [.int (nI i)]) (st := [.long (Int64.ofInt (zS i (fun k => -T k k)))]) (k_X1_spreadAbove hI M (i := i) hu (by omega) hT) zw_438 zy_X1_spreadAbove ⟨rfl, rfl⟩ (by decide) (zOB_X1 E) rfl rfl rfl rfl (Nat.le_of_ble_eq_true rfl) dX1_totalAbove_15 ?_
        rintro _ M15 ⟨v15, rfl, q15⟩
        obtain ⟨rfl, rfl⟩ := q15
        show zJ E x 18 _ [.long (Int64.ofInt (-T i i)), .long (Int64.ofInt (zS i (fun k => -T k k)))] _
        refine z_ladd hx dX1_totalAbove_18 ?_
        refine z_lstore_n hx (lv2 := [(1, .long ((Int64.ofInt (zS i (fun k => -T k k))) + (Int64.ofInt (-T i i)))), (3, .int (nI i)), (0, .ref (E.2.2.2 7))]) dX1_totalAbove_19 rfl (by decide) rfl ?_
        refine z_iinc hx (w := nI (i + 1)) (lv2 := [(3, .int (nI (i + 1))), (1, .long ((Int64.ofInt (zS i (fun k => -T k k))) + (Int64.ofInt (-T i i)))), (0, .ref (E.2.2.2 7))]) 1 dX1_totalAbove_20 rfl (z_inc _) (by decide) rfl ?_
        refine z_goto (tgt := 4) hx dX1_totalAbove_23 (by decide) ?_
        exact z_to (ih4 (i + 1) (by omega) (by omega)) [0, 1, 2] (by rw [zI64_add]; rfl) rfl
  exact z_to (loop4 _ 0 (by omega) (Nat.lt_succ_self _)) [0, 1, 2] rfl rfl
set_option maxHeartbeats 4000000 in
set_option maxRecDepth 100000 in
theorem k_X1_restAbove {E : zE} (hI : zI E) (M : zM) {a w n mm t : Nat} {cd : Nat → Nat} {rd : Nat → Int} {T : Nat → Nat → Int} {D : Int} (ha : zRoom a) (hR : zRm M a w n mm cd rd) (ht : t < n) (d : Bool) (h3 : M.1 7 3 = zdr d) (h5 : M.1 7 5 = nI (zunk w d)) (h6 : M.2 7 6 = Int64.ofInt D) (hT : ∀ i j, i ≤ j → j ≤ zunk w d → M.2 (21 + 1 * i) j = Int64.ofInt (T i j)) : zK E yX1_restAbove (.code yX1_restAbove cX1_restAbove 6 (some .long)) (zrm 2 46) [.ref (E.2.2.2 7), .ref (E.2.2.2 a), .int (nI t)] M (zpl (fun v M2 => v = Int64.ofInt (zLn w mm d (cd t) (rd t) t (zunk w d) * D - zS (zunk w d) (fun k => zLn w mm d (cd t) (rd t) t k * T k (zunk w d))) ∧ zfr (fun c => c = 10) M M2)) := by
  refine zK_of hI (by decide) (Nat.le_of_ble_eq_true rfl) (fun x hx ri rz rl rv => ?_)
  show zJ E x 0 [(0, .ref (E.2.2.2 7)), (1, .ref (E.2.2.2 a)), (2, .int (nI t))] [] M
  have hu := zunk_le hR.2.1.2 d
  have hge := zRoom_ge ha
  refine z_aload_n hx 1 dX1_restAbove_0 rfl rfl ?_
  refine z_iload_n hx 2 dX1_restAbove_1 rfl rfl ?_
  refine z_aload_n hx 0 dX1_restAbove_2 rfl rfl ?_
  refine zg_X1_3 hx zw_134 dX1_restAbove_3 ?_
  refine z_eqi h3 ?_
  refine z_aload_n hx 0 dX1_restAbove_6 rfl rfl ?_
  refine zg_X1_2 hx zw_133 dX1_restAbove_7 ?_
  refine z_callV hx (As := [.int (nI t), .int (zdr d), .ref (E.2.2.2 10)]) (st := []) (k_X3_layOut hI M ha (zJA_10 E) (by decide) hR.1 hR.2.1.1 hR.2.1.2 hR.2.2.1 (by have := hR.2.2.2.2.2.1; omega) (hR.2.2.2.2.2.2 t ht).1 (hR.2.2.2.2.2.2 t ht).2.1 (hR.2.2.2.2.2.2 t ht).2.2.2.1 (hR.2.2.2.2.2.2 t ht).2.2.2.2.1 (hR.2.2.2.2.2.2 t ht).2.2.2.2.2 hR.2.2.2.1 (hR.2.2.2.2.2.2 t ht).2.2.1 d) zw_394 zy_X3_layOut ⟨rfl, rfl⟩ (by decide) (zOB_room ha E) rfl rfl rfl rfl (Nat.le_of_ble_eq_true rfl) dX1_restAbove_10 ?_
  rintro _ M10 ⟨rfl, q10⟩
  subst q10
  show zJ E x 13 _ [] _
  refine z_aload_n hx 0 dX1_restAbove_13 rfl rfl ?_
  refine zg_X1_2 hx zw_133 dX1_restAbove_14 ?_
  refine z_aload_n hx 0 dX1_restAbove_17 rfl rfl ?_
  refine zg_X1_5 hx zw_136 dX1_restAbove_18 ?_
  refine z_eqi (zskSJI h5) ?_
  refine z_lald_n hx (zJA_10 E) (by omega) dX1_restAbove_21 ?_
  refine z_eql zhtSJ ?_
  refine z_eql (if_pos (by omega)) ?_
  refine z_aload_n hx 0 dX1_restAbove_22 rfl rfl ?_
  refine zg_X1_6 hx zw_137 dX1_restAbove_23 ?_
  refine z_eql (zskSJ (by omega) h6) ?_
  refine z_lmul hx dX1_restAbove_26 ?_
  refine z_lstore_n hx (lv2 := [(3, .long ((Int64.ofInt (zLn w mm d (cd t) (rd t) t (zunk w d))) * (Int64.ofInt D))), (0, .ref (E.2.2.2 7)), (1, .ref (E.2.2.2 a)), (2, .int (nI t))]) dX1_restAbove_27 rfl (by decide) rfl ?_
  refine z_iconst hx (v := nI 0) dX1_restAbove_28 (by decide +kernel) ?_
  refine z_istore hx (lv2 := [(5, .int (nI 0)), (3, .long ((Int64.ofInt (zLn w mm d (cd t) (rd t) t (zunk w d))) * (Int64.ofInt D))), (0, .ref (E.2.2.2 7)), (1, .ref (E.2.2.2 a)), (2, .int (nI t))]) dX1_restAbove_29 (by decide) rfl ?_
  have loop31 : ∀ (fuel31 : Nat) (i : Nat) (_ : i ≤ zunk w d), zunk w d - i < fuel31 → zJ E x 31 [(5, .int (nI i)), (3, .long (Int64.ofInt (zLn w mm d (cd t) (rd t) t (zunk w d) * D - zS i (fun k => zLn w mm d (cd t) (rd t) t k * T k (zunk w d))))), (0, .ref (E.2.2.2 7)), (1, .ref (E.2.2.2 a)), (2, .int (nI t))] [] (zsetJ M 10 (fun i => if i ≤ zunk w d then Int64.ofInt (zLn w mm d (cd t) (rd t) t i) else M.2 10 i)) := by
    intro fuel31
    induction fuel31 with
    | zero =>
      intros; omega
    | succ fuel31 ih31 =>
      intro i hi hfuel31
      refine z_iload hx 0 dX1_restAbove_31 rfl ?_
      refine z_aload_n hx 2 dX1_restAbove_33 rfl rfl ?_
      refine zg_X1_5 hx zw_136 dX1_restAbove_34 ?_
      refine z_eqi (zskSJI h5) ?_
      refine z_icmp_ge_n (tgt := 63) hx (by omega) (by omega) dX1_restAbove_37 (by decide) (fun h37 => ?_) (fun h37 => ?_)
      · skip
        refine z_lload_n hx 1 dX1_restAbove_63 rfl rfl ?_
        exact rl _ _ _ _ rfl ⟨_, rfl, ⟨by rw [show i = zunk w d by omega], zfr_setJ rfl⟩⟩ dX1_restAbove_64
      · skip
        refine z_lload_n hx 1 dX1_restAbove_40 rfl rfl ?_
        refine z_aload_n hx 2 dX1_restAbove_41 rfl rfl ?_
        refine zg_X1_2 hx zw_133 dX1_restAbove_42 ?_
        refine z_iload hx 0 dX1_restAbove_45 rfl ?_
        refine z_lald_n hx (zJA_10 E) (by omega) dX1_restAbove_47 ?_
        refine z_eql zhtSJ ?_
        refine z_eql (if_pos (by omega)) ?_
        refine z_aload_n hx 2 dX1_restAbove_48 rfl rfl ?_
        refine z_iload hx 0 dX1_restAbove_49 rfl ?_
        refine z_callV hx (As := [.int (nI i)]) (st := [.long (Int64.ofInt (zLn w mm d (cd t) (rd t) t i)), .long (Int64.ofInt (zLn w mm d (cd t) (rd t) t (zunk w d) * D - zS i (fun k => zLn w mm d (cd t) (rd t) t k * T k (zunk w d))))]) (k_X1_valueAbove hI (zsetJ M 10 (fun i => if i ≤ zunk w d then Int64.ofInt (zLn w mm d (cd t) (rd t) t i) else M.2 10 i)) (i := i) (zskSJI h5) hu (by omega) (fun i j z1 z2 => zskSJ (by omega) (hT i j z1 z2))) zw_447 zy_X1_valueAbove ⟨rfl, rfl⟩ (by decide) (zOB_X1 E) rfl rfl rfl rfl (Nat.le_of_ble_eq_true rfl) dX1_restAbove_51 ?_
        rintro _ M51 ⟨v51, rfl, q51⟩
        obtain ⟨rfl, rfl⟩ := q51
        show zJ E x 54 _ [.long (Int64.ofInt (T i (zunk w d))), .long (Int64.ofInt (zLn w mm d (cd t) (rd t) t i)), .long (Int64.ofInt (zLn w mm d (cd t) (rd t) t (zunk w d) * D - zS i (fun k => zLn w mm d (cd t) (rd t) t k * T k (zunk w d))))] _
        refine z_lmul hx dX1_restAbove_54 ?_
        refine z_lsub hx dX1_restAbove_55 ?_
        refine z_lstore_n hx (lv2 := [(3, .long ((Int64.ofInt (zLn w mm d (cd t) (rd t) t (zunk w d) * D - zS i (fun k => zLn w mm d (cd t) (rd t) t k * T k (zunk w d)))) - ((Int64.ofInt (zLn w mm d (cd t) (rd t) t i)) * (Int64.ofInt (T i (zunk w d)))))), (5, .int (nI i)), (0, .ref (E.2.2.2 7)), (1, .ref (E.2.2.2 a)), (2, .int (nI t))]) dX1_restAbove_56 rfl (by decide) rfl ?_
        refine z_iinc hx (w := nI (i + 1)) (lv2 := [(5, .int (nI (i + 1))), (3, .long ((Int64.ofInt (zLn w mm d (cd t) (rd t) t (zunk w d) * D - zS i (fun k => zLn w mm d (cd t) (rd t) t k * T k (zunk w d)))) - ((Int64.ofInt (zLn w mm d (cd t) (rd t) t i)) * (Int64.ofInt (T i (zunk w d)))))), (0, .ref (E.2.2.2 7)), (1, .ref (E.2.2.2 a)), (2, .int (nI t))]) 1 dX1_restAbove_57 rfl (z_inc _) (by decide) rfl ?_
        refine z_goto (tgt := 31) hx dX1_restAbove_60 (by decide) ?_
        exact z_to (ih31 (i + 1) (by omega) (by omega)) [0, 1, 2, 3, 4] (by rw [zI64_mul, zI64_sub, zS, Int.sub_sub]; rfl) rfl
  exact z_to (loop31 _ 0 (by omega) (Nat.lt_succ_self _)) [0, 1, 2, 3, 4] (by rw [show zS 0 _ = 0 from rfl, Int.sub_zero, ← zI64_mul]; rfl) rfl
end
section
theorem zcmpge {x y : Int64} (h : 0 ≤ lg_cmp x y) : ¬ x < y := fun z => by
  have h1 := (lg_cmp_ge x y).mp h
  exact absurd z (Int64.not_lt.mpr h1)
theorem zcmpnge {x y : Int64} (h : ¬ 0 ≤ lg_cmp x y) : x < y := Int64.not_le.mp (fun z => h ((lg_cmp_ge x y).mpr z))
/-- of what is told for 0 .. the first that is least -/
def zbest (q : Nat → Option (Int × Int)) : Nat → Option (Nat × Int × Int)
  | 0 => none
  | t + 1 => match q t with
    | none => zbest q t
    | some (a, b) => match zbest q t with
      | none => some (t, a, b)
      | some (i, x, y) => if a * y < x * b then some (t, a, b) else some (i, x, y)
def zbi (o : Option (Nat × Int × Int)) : Int32 := match o with
  | none => -9
  | some (i, _, _) => nI i
def zba (o : Option (Nat × Int × Int)) : Int := match o with
  | none => 0
  | some (_, x, _) => x
def zbb (o : Option (Nat × Int × Int)) : Int := match o with
  | none => 1
  | some (_, _, y) => y
theorem zbest_mem {q : Nat → Option (Int × Int)} : ∀ {t : Nat} {i : Nat} {x y : Int}, zbest q t = some (i, x, y) → i < t ∧ q i = some (x, y)
  | 0, _, _, _, h => by cases h
  | t + 1, i, x, y, h => by
    rw [zbest] at h
    cases hq : q t with
    | none =>
      rw [hq] at h
      have := zbest_mem h
      exact ⟨by omega, this.2⟩
    | some ab =>
      obtain ⟨a, b⟩ := ab
      rw [hq] at h
      dsimp only at h
      cases hz : zbest q t with
      | none =>
        rw [hz] at h
        cases h
        exact ⟨by omega, hq⟩
      | some p =>
        obtain ⟨j, x', y'⟩ := p
        rw [hz] at h
        dsimp only at h
        split at h
        · cases h
          exact ⟨by omega, hq⟩
        · cases h
          have := zbest_mem hz
          exact ⟨by omega, this.2⟩
def zq (u : Nat) (T : Nat → Nat → Nat → Nat → Int) (D : Nat → Nat → Int) (t : Nat) : Option (Int × Int) := if 0 < D t u then some (T t u u u, D t u) else none
theorem zq_some {u : Nat} {T : Nat → Nat → Nat → Nat → Int} {D : Nat → Nat → Int} {t : Nat} {x y : Int} (h : zq u T D t = some (x, y)) : 0 < D t u ∧ x = T t u u u ∧ y = D t u := by
  unfold zq at h
  split at h
  · cases h
    exact ⟨by assumption, rfl, rfl⟩
  · cases h
theorem zbest_no {q : Nat → Option (Int × Int)} {t : Nat} (h : q t = none) : zbest q (t + 1) = zbest q t := by rw [zbest, h]
theorem zbest_first {q : Nat → Option (Int × Int)} {t : Nat} {a b : Int} (h : q t = some (a, b)) (h2 : zbest q t = none) : zbest q (t + 1) = some (t, a, b) := by rw [zbest, h, h2]
theorem zbest_yes {q : Nat → Option (Int × Int)} {t i : Nat} {a b x y : Int} (h : q t = some (a, b)) (h2 : zbest q t = some (i, x, y)) (h3 : a * y < x * b) : zbest q (t + 1) = some (t, a, b) := by
  rw [zbest, h, h2]
  exact if_pos h3
theorem zbest_nay {q : Nat → Option (Int × Int)} {t i : Nat} {a b x y : Int} (h : q t = some (a, b)) (h2 : zbest q t = some (i, x, y)) (h3 : ¬ a * y < x * b) : zbest q (t + 1) = some (i, x, y) := by
  rw [zbest, h, h2]
  exact if_neg h3
theorem zbi_none {o : Option (Nat × Int × Int)} (hi : ∀ i x y, o = some (i, x, y) → i < 8) : zbi o = -9 ↔ o = none := by
  cases o with
  | none => exact ⟨fun _ => rfl, fun _ => rfl⟩
  | some p =>
    obtain ⟨i, x, y⟩ := p
    refine ⟨fun h => ?_, fun h => by cases h⟩
    have h8 := hi i x y rfl
    have h' : nI i = -9 := h
    rcases (show i = 0 ∨ i = 1 ∨ i = 2 ∨ i = 3 ∨ i = 4 ∨ i = 5 ∨ i = 6 ∨ i = 7 by omega) with rfl | rfl | rfl | rfl | rfl | rfl | rfl | rfl <;> exact absurd h' (by decide +kernel)
def zwb (q : Nat → Option (Int × Int)) : Nat → Int32
  | 0 => nI 0
  | t + 1 => match q t with
    | none => zwb q t
    | some (a, _) => if a = 0 then zwb q t ||| (nI 1 <<< (nI t &&& 31)) else zwb q t
set_option maxHeartbeats 4000000 in
set_option maxRecDepth 100000 in
theorem k_X5_isLess {E : zE} (hI : zI E) (M : zM) (a b c e : Int64) : zK E yX5_isLess (.code yX5_isLess cX5_isLess 8 (some .boolean)) (zrm 0 0) [.long a, .long b, .long c, .long e] M (zpi (fun v M2 => ((a * e < c * b ∧ v = nI 1) ∨ (¬ a * e < c * b ∧ v = nI 0)) ∧ M2 = M)) := by
  refine zK_of hI (by decide) (Nat.le_of_ble_eq_true rfl) (fun x hx ri rz rl rv => ?_)
  show zJ E x 0 [(0, .long a), (2, .long b), (4, .long c), (6, .long e)] [] M
  refine z_lload_n hx 0 dX5_isLess_0 rfl rfl ?_
  refine z_lload hx 3 dX5_isLess_1 rfl ?_
  refine z_lmul hx dX5_isLess_3 ?_
  refine z_lload hx 2 dX5_isLess_4 rfl ?_
  refine z_lload_n hx 1 dX5_isLess_6 rfl rfl ?_
  refine z_lmul hx dX5_isLess_7 ?_
  refine z_lcmp hx dX5_isLess_8 ?_
  refine z_if_ge (tgt := 16) hx dX5_isLess_9 (by decide) (fun h9 => ?_) (fun h9 => ?_)
  · skip
    refine z_iconst hx (v := nI 0) dX5_isLess_16 (by decide +kernel) ?_
    exact rz _ _ _ _ rfl (Or.inl rfl) ⟨_, rfl, ⟨Or.inr ⟨zcmpge h9, rfl⟩, rfl⟩⟩ dX5_isLess_17
  · skip
    refine z_iconst hx (v := nI 1) dX5_isLess_12 (by decide +kernel) ?_
    refine z_goto (tgt := 17) hx dX5_isLess_13 (by decide) ?_
    exact rz _ _ _ _ rfl (Or.inr rfl) ⟨_, rfl, ⟨Or.inl ⟨zcmpnge h9, rfl⟩, rfl⟩⟩ dX5_isLess_17
set_option maxHeartbeats 4000000 in
set_option maxRecDepth 100000 in
theorem k_X1_mostDoubtful {E : zE} (hI : zI E) (M : zM) {a w n mm : Nat} {cd : Nat → Nat} {rd : Nat → Int} (ha : zRoom a) (hR : zRm M a w n mm cd rd) (d : Bool) {T : Nat → Nat → Nat → Nat → Int} {D : Nat → Nat → Int} (hT : ∀ t, t < n → zTb (zunk w d) (zGr w mm d cd rd n (fun k => !decide (k = t))) (T t) (D t)) (hrg : ∀ s t, s < n → t < n → 0 < D s (zunk w d) → 0 < D t (zunk w d) → zrg (T s (zunk w d) (zunk w d) (zunk w d) * D t (zunk w d))) : zK E yX1_mostDoubtful (.code yX1_mostDoubtful cX1_mostDoubtful 9 (some .int)) (zrm 4 99) [.ref (E.2.2.2 7), .ref (E.2.2.2 a), .int (zdr d)] M (zpi (fun v M2 => v = zbi (zbest (zq (zunk w d) T D) n) ∧ zfr (fun c => c = 7 ∨ c = 10 ∨ 15 ≤ c ∧ c ≤ 26) M M2)) := by
  refine zK_of hI (by decide) (Nat.le_of_ble_eq_true rfl) (fun x hx ri rz rl rv => ?_)
  show zJ E x 0 [(0, .ref (E.2.2.2 7)), (1, .ref (E.2.2.2 a)), (2, .int (zdr d))] [] M
  have hu := zunk_le hR.2.1.2 d
  have hge := zRoom_ge ha
  have hn8 := hR.2.2.2.2.2.1
  refine z_aload_n hx 0 dX1_mostDoubtful_0 rfl rfl ?_
  refine z_aload_n hx 1 dX1_mostDoubtful_1 rfl rfl ?_
  refine z_iload_n hx 2 dX1_mostDoubtful_2 rfl rfl ?_
  refine z_callV hx (As := [.ref (E.2.2.2 a), .int (zdr d)]) (st := []) (k_X1_gather hI M ha hR d) zw_385 zy_X1_gather ⟨rfl, rfl⟩ (by decide) (zOB_X1 E) rfl rfl rfl rfl (Nat.le_of_ble_eq_true rfl) dX1_mostDoubtful_3 ?_
  rintro _ M3 ⟨rfl, q3⟩
  show zJ E x 6 _ [] _
  refine z_bipush hx (v := (-9)) dX1_mostDoubtful_6 rfl ?_
  refine z_istore_n hx (lv2 := [(3, .int (-9)), (0, .ref (E.2.2.2 7)), (1, .ref (E.2.2.2 a)), (2, .int (zdr d))]) dX1_mostDoubtful_8 rfl (by decide) rfl ?_
  refine z_lconst hx (v := 0) dX1_mostDoubtful_9 rfl ?_
  refine z_lstore hx (lv2 := [(4, .long 0), (3, .int (-9)), (0, .ref (E.2.2.2 7)), (1, .ref (E.2.2.2 a)), (2, .int (zdr d))]) dX1_mostDoubtful_10 (by decide) rfl ?_
  refine z_lconst hx (v := 1) dX1_mostDoubtful_12 rfl ?_
  refine z_lstore hx (lv2 := [(6, .long 1), (4, .long 0), (3, .int (-9)), (0, .ref (E.2.2.2 7)), (1, .ref (E.2.2.2 a)), (2, .int (zdr d))]) dX1_mostDoubtful_13 (by decide) rfl ?_
  refine z_iconst hx (v := nI 0) dX1_mostDoubtful_15 (by decide +kernel) ?_
  refine z_istore hx (lv2 := [(8, .int (nI 0)), (6, .long 1), (4, .long 0), (3, .int (-9)), (0, .ref (E.2.2.2 7)), (1, .ref (E.2.2.2 a)), (2, .int (zdr d))]) dX1_mostDoubtful_16 (by decide) rfl ?_
  have loop18 : ∀ (fuel18 : Nat) (t : Nat) (N : zM) (_ : t ≤ n) (_ : N.1 7 3 = zdr d) (_ : N.1 7 5 = nI (zunk w d)) (_ : zfr (fun c => c = 7 ∨ c = 10 ∨ 15 ≤ c ∧ c ≤ 26) M N) (_ : ∀ p q, p ≤ q → q ≤ zunk w d → N.2 (15 + 1 * p) q = Int64.ofInt (zGr w mm d cd rd n (fun _ => true) p q)), n - t < fuel18 → zJ E x 18 [(8, .int (nI t)), (6, .long (Int64.ofInt (zbb (zbest (zq (zunk w d) T D) t)))), (4, .long (Int64.ofInt (zba (zbest (zq (zunk w d) T D) t)))), (3, .int (zbi (zbest (zq (zunk w d) T D) t))), (0, .ref (E.2.2.2 7)), (1, .ref (E.2.2.2 a)), (2, .int (zdr d))] [] N := by
    intro fuel18
    induction fuel18 with
    | zero =>
      intros; omega
    | succ fuel18 ih18 =>
      intro t N ht hN3 hN5 hNf hNs hfuel18
      refine z_iload hx 0 dX1_mostDoubtful_18 rfl ?_
      refine z_aload_n hx 5 dX1_mostDoubtful_20 rfl rfl ?_
      refine zg_X3_2 hx ha zw_87 dX1_mostDoubtful_21 ?_
      refine z_eqi (zRm_fr hR hNf (by omega) (by omega) (by omega)).2.2.2.2.1 ?_
      refine z_icmp_ge_n (tgt := 82) hx (by omega) (by omega) dX1_mostDoubtful_24 (by decide) (fun h24 => ?_) (fun h24 => ?_)
      · skip
        refine z_iload_n hx 3 dX1_mostDoubtful_82 rfl rfl ?_
        exact ri _ _ _ _ rfl ⟨_, rfl, ⟨by rw [show t = n by omega], hNf⟩⟩ dX1_mostDoubtful_83
      · skip
        refine z_aload_n hx 4 dX1_mostDoubtful_27 rfl rfl ?_
        refine z_aload_n hx 5 dX1_mostDoubtful_28 rfl rfl ?_
        refine z_iload hx 0 dX1_mostDoubtful_29 rfl ?_
        refine z_callV hx (As := [.ref (E.2.2.2 a), .int (nI t)]) (st := []) (k_X1_solvesWithout hI N (t := t) ha (zRm_fr hR hNf (by omega) (by omega) (by omega)) (by omega) d hN3 hN5 hNs (T := T t) (D := D t) (by have h := hT t (by omega); have e : zGr w mm d cd rd n (fun k => !decide (k = t)) = (fun p q => zGr w mm d cd rd n (fun _ => true) p q - zLn w mm d (cd t) (rd t) t p * zLn w mm d (cd t) (rd t) t q) := funext (fun p => funext (fun q => zGr_sw (by omega) p q)); rw [e] at h; exact h)) zw_487 zy_X1_solvesWithout ⟨rfl, rfl⟩ (by decide) (zOB_X1 E) rfl rfl rfl rfl (Nat.le_of_ble_eq_true rfl) dX1_mostDoubtful_31 ?_
        rintro _ M31 ⟨v31, rfl, q31⟩
        have qs31 := q31
        obtain ⟨q31, -⟩ := q31
        rcases q31 with ⟨rfl, q31⟩ | ⟨rfl, q31⟩
        · skip
          show zJ E x 34 _ [.int (nI 1)] _
          have hq : zq (zunk w d) T D t = some (T t (zunk w d) (zunk w d) (zunk w d), D t (zunk w d)) := if_pos q31.1
          refine z_if_eq_n (tgt := 76) hx (by decide) dX1_mostDoubtful_34 (by decide) (fun h => absurd h (by decide)) (fun _ => ?_)
          refine z_iload_n hx 3 dX1_mostDoubtful_37 rfl rfl ?_
          refine z_bipush hx (v := (-9)) dX1_mostDoubtful_38 rfl ?_
          refine z_icmp_eq (tgt := 61) hx dX1_mostDoubtful_40 (by decide) (fun h40 => ?_) (fun h40 => ?_)
          · skip
            have hz : zbest (zq (zunk w d) T D) t = none := (zbi_none (fun i x y e => by have := (zbest_mem e).1; omega)).mp h40
            refine z_iload hx 0 dX1_mostDoubtful_61 rfl ?_
            refine z_istore_n hx (lv2 := [(3, .int (nI t)), (8, .int (nI t)), (6, .long (Int64.ofInt (zbb (zbest (zq (zunk w d) T D) t)))), (4, .long (Int64.ofInt (zba (zbest (zq (zunk w d) T D) t)))), (0, .ref (E.2.2.2 7)), (1, .ref (E.2.2.2 a)), (2, .int (zdr d))]) dX1_mostDoubtful_63 rfl (by decide) rfl ?_
            refine z_aload_n hx 4 dX1_mostDoubtful_64 rfl rfl ?_
            refine z_callV hx (As := []) (st := []) (k_X1_squaresAbove hI M31 (by rw [qs31.2.1]; exact hN5) hu q31.2.2) zw_491 zy_X1_squaresAbove ⟨rfl, rfl⟩ (by decide) (zOB_X1 E) rfl rfl rfl rfl (Nat.le_of_ble_eq_true rfl) dX1_mostDoubtful_65 ?_
            rintro _ M65 ⟨v65, rfl, q65⟩
            obtain ⟨rfl, q65⟩ := q65
            rw [q65]
            show zJ E x 68 _ [.long (Int64.ofInt (T t (zunk w d) (zunk w d) (zunk w d)))] _
            refine z_lstore hx (lv2 := [(4, .long (Int64.ofInt (T t (zunk w d) (zunk w d) (zunk w d)))), (3, .int (nI t)), (8, .int (nI t)), (6, .long (Int64.ofInt (zbb (zbest (zq (zunk w d) T D) t)))), (0, .ref (E.2.2.2 7)), (1, .ref (E.2.2.2 a)), (2, .int (zdr d))]) dX1_mostDoubtful_68 (by decide) rfl ?_
            refine z_aload_n hx 4 dX1_mostDoubtful_70 rfl rfl ?_
            refine zg_X1_6 hx zw_137 dX1_mostDoubtful_71 ?_
            refine z_eql q31.2.1 ?_
            refine z_lstore hx (lv2 := [(6, .long (Int64.ofInt (D t (zunk w d)))), (4, .long (Int64.ofInt (T t (zunk w d) (zunk w d) (zunk w d)))), (3, .int (nI t)), (8, .int (nI t)), (0, .ref (E.2.2.2 7)), (1, .ref (E.2.2.2 a)), (2, .int (zdr d))]) dX1_mostDoubtful_74 (by decide) rfl ?_
            refine z_iinc hx (w := nI (t + 1)) (lv2 := [(8, .int (nI (t + 1))), (6, .long (Int64.ofInt (D t (zunk w d)))), (4, .long (Int64.ofInt (T t (zunk w d) (zunk w d) (zunk w d)))), (3, .int (nI t)), (0, .ref (E.2.2.2 7)), (1, .ref (E.2.2.2 a)), (2, .int (zdr d))]) 3 dX1_mostDoubtful_76 rfl (z_inc _) (by decide) rfl ?_
            refine z_goto (tgt := 18) hx dX1_mostDoubtful_79 (by decide) ?_
            exact z_to (ih18 (t + 1) M31 (by omega) (by rw [qs31.2.1]; exact hN3) (by rw [qs31.2.1]; exact hN5) (zfr_tr hNf qs31.2.2.1) (fun p q z1 z2 => by rw [qs31.2.2.2 p q z1 z2]; exact hNs p q z1 z2) (by omega)) [0, 1, 2, 3, 4, 5, 6] (by rw [zbest_first hq hz]; rfl) rfl
          · skip
            obtain ⟨⟨i, x0, y0⟩, hz⟩ : ∃ o, zbest (zq (zunk w d) T D) t = some o := by
              cases hz : zbest (zq (zunk w d) T D) t with
              | none => exact absurd (by rw [hz]; rfl) h40
              | some o => exact ⟨o, rfl⟩
            obtain ⟨hi1, hi2⟩ := zbest_mem hz
            obtain ⟨hi3, hi4, hi5⟩ := zq_some hi2
            have hba : zba (zbest (zq (zunk w d) T D) t) = x0 := by rw [hz]; rfl
            have hbb : zbb (zbest (zq (zunk w d) T D) t) = y0 := by rw [hz]; rfl
            refine z_aload_n hx 4 dX1_mostDoubtful_43 rfl rfl ?_
            refine z_callV hx (As := []) (st := []) (k_X1_squaresAbove hI M31 (by rw [qs31.2.1]; exact hN5) hu q31.2.2) zw_491 zy_X1_squaresAbove ⟨rfl, rfl⟩ (by decide) (zOB_X1 E) rfl rfl rfl rfl (Nat.le_of_ble_eq_true rfl) dX1_mostDoubtful_44 ?_
            rintro _ M44 ⟨v44, rfl, q44⟩
            obtain ⟨rfl, q44⟩ := q44
            rw [q44]
            show zJ E x 47 _ [.long (Int64.ofInt (T t (zunk w d) (zunk w d) (zunk w d)))] _
            refine z_aload_n hx 4 dX1_mostDoubtful_47 rfl rfl ?_
            refine zg_X1_6 hx zw_137 dX1_mostDoubtful_48 ?_
            refine z_eql q31.2.1 ?_
            refine z_lload hx 2 dX1_mostDoubtful_51 rfl ?_
            refine z_lload hx 1 dX1_mostDoubtful_53 rfl ?_
            refine z_callN hx (As := [.long (Int64.ofInt (T t (zunk w d) (zunk w d) (zunk w d))), .long (Int64.ofInt (D t (zunk w d))), .long (Int64.ofInt (zba (zbest (zq (zunk w d) T D) t))), .long (Int64.ofInt (zbb (zbest (zq (zunk w d) T D) t)))]) (st := []) (k_X5_isLess hI M31 (Int64.ofInt (T t (zunk w d) (zunk w d) (zunk w d))) (Int64.ofInt (D t (zunk w d))) (Int64.ofInt (zba (zbest (zq (zunk w d) T D) t))) (Int64.ofInt (zbb (zbest (zq (zunk w d) T D) t)))) zy_X5_isLess ⟨rfl, rfl⟩ (by decide) rfl rfl (Nat.le_of_ble_eq_true rfl) dX1_mostDoubtful_55 ?_
            rintro _ M55 ⟨v55, rfl, q55⟩
            obtain ⟨q55, q55m⟩ := q55
            rw [q55m]
            rcases q55 with ⟨q55, rfl⟩ | ⟨q55, rfl⟩
            · skip
              show zJ E x 58 _ [.int (nI 1)] _
              have hlt := q55
              rw [hba, hbb, zI64_mul, zI64_mul, zlt64 (by rw [hi5]; exact hrg t i (by omega) (by omega) q31.1 hi3) (by rw [hi4]; exact hrg i t (by omega) (by omega) hi3 q31.1)] at hlt
              refine z_if_eq_n (tgt := 76) hx (by decide) dX1_mostDoubtful_58 (by decide) (fun h => absurd h (by decide)) (fun _ => ?_)
              refine z_iload hx 0 dX1_mostDoubtful_61 rfl ?_
              refine z_istore_n hx (lv2 := [(3, .int (nI t)), (8, .int (nI t)), (6, .long (Int64.ofInt (zbb (zbest (zq (zunk w d) T D) t)))), (4, .long (Int64.ofInt (zba (zbest (zq (zunk w d) T D) t)))), (0, .ref (E.2.2.2 7)), (1, .ref (E.2.2.2 a)), (2, .int (zdr d))]) dX1_mostDoubtful_63 rfl (by decide) rfl ?_
              refine z_aload_n hx 4 dX1_mostDoubtful_64 rfl rfl ?_
              refine z_callV hx (As := []) (st := []) (k_X1_squaresAbove hI M31 (by rw [qs31.2.1]; exact hN5) hu q31.2.2) zw_491 zy_X1_squaresAbove ⟨rfl, rfl⟩ (by decide) (zOB_X1 E) rfl rfl rfl rfl (Nat.le_of_ble_eq_true rfl) dX1_mostDoubtful_65 ?_
              rintro _ M65 ⟨v65, rfl, q65⟩
              obtain ⟨rfl, q65⟩ := q65
              rw [q65]
              show zJ E x 68 _ [.long (Int64.ofInt (T t (zunk w d) (zunk w d) (zunk w d)))] _
              refine z_lstore hx (lv2 := [(4, .long (Int64.ofInt (T t (zunk w d) (zunk w d) (zunk w d)))), (3, .int (nI t)), (8, .int (nI t)), (6, .long (Int64.ofInt (zbb (zbest (zq (zunk w d) T D) t)))), (0, .ref (E.2.2.2 7)), (1, .ref (E.2.2.2 a)), (2, .int (zdr d))]) dX1_mostDoubtful_68 (by decide) rfl ?_
              refine z_aload_n hx 4 dX1_mostDoubtful_70 rfl rfl ?_
              refine zg_X1_6 hx zw_137 dX1_mostDoubtful_71 ?_
              refine z_eql q31.2.1 ?_
              refine z_lstore hx (lv2 := [(6, .long (Int64.ofInt (D t (zunk w d)))), (4, .long (Int64.ofInt (T t (zunk w d) (zunk w d) (zunk w d)))), (3, .int (nI t)), (8, .int (nI t)), (0, .ref (E.2.2.2 7)), (1, .ref (E.2.2.2 a)), (2, .int (zdr d))]) dX1_mostDoubtful_74 (by decide) rfl ?_
              refine z_iinc hx (w := nI (t + 1)) (lv2 := [(8, .int (nI (t + 1))), (6, .long (Int64.ofInt (D t (zunk w d)))), (4, .long (Int64.ofInt (T t (zunk w d) (zunk w d) (zunk w d)))), (3, .int (nI t)), (0, .ref (E.2.2.2 7)), (1, .ref (E.2.2.2 a)), (2, .int (zdr d))]) 3 dX1_mostDoubtful_76 rfl (z_inc _) (by decide) rfl ?_
              refine z_goto (tgt := 18) hx dX1_mostDoubtful_79 (by decide) ?_
              exact z_to (ih18 (t + 1) M31 (by omega) (by rw [qs31.2.1]; exact hN3) (by rw [qs31.2.1]; exact hN5) (zfr_tr hNf qs31.2.2.1) (fun p q z1 z2 => by rw [qs31.2.2.2 p q z1 z2]; exact hNs p q z1 z2) (by omega)) [0, 1, 2, 3, 4, 5, 6] (by rw [zbest_yes hq hz hlt]; rfl) rfl
            · skip
              show zJ E x 58 _ [.int (nI 0)] _
              have hlt := q55
              rw [hba, hbb, zI64_mul, zI64_mul, zlt64 (by rw [hi5]; exact hrg t i (by omega) (by omega) q31.1 hi3) (by rw [hi4]; exact hrg i t (by omega) (by omega) hi3 q31.1)] at hlt
              refine z_if_eq_n (tgt := 76) hx (by decide) dX1_mostDoubtful_58 (by decide) (fun _ => ?_) (fun h => absurd h (by decide))
              refine z_iinc hx (w := nI (t + 1)) (lv2 := [(8, .int (nI (t + 1))), (6, .long (Int64.ofInt (zbb (zbest (zq (zunk w d) T D) t)))), (4, .long (Int64.ofInt (zba (zbest (zq (zunk w d) T D) t)))), (3, .int (zbi (zbest (zq (zunk w d) T D) t))), (0, .ref (E.2.2.2 7)), (1, .ref (E.2.2.2 a)), (2, .int (zdr d))]) 0 dX1_mostDoubtful_76 rfl (z_inc _) (by decide) rfl ?_
              refine z_goto (tgt := 18) hx dX1_mostDoubtful_79 (by decide) ?_
              exact z_to (ih18 (t + 1) M31 (by omega) (by rw [qs31.2.1]; exact hN3) (by rw [qs31.2.1]; exact hN5) (zfr_tr hNf qs31.2.2.1) (fun p q z1 z2 => by rw [qs31.2.2.2 p q z1 z2]; exact hNs p q z1 z2) (by omega)) [0, 1, 2, 3, 4, 5, 6] (by rw [Eq.trans (zbest_nay hq hz hlt) (Eq.symm hz)]; rfl) rfl
        · skip
          show zJ E x 34 _ [.int (nI 0)] _
          have hq : zq (zunk w d) T D t = none := if_neg (by omega)
          refine z_if_eq_n (tgt := 76) hx (by decide) dX1_mostDoubtful_34 (by decide) (fun _ => ?_) (fun h => absurd h (by decide))
          refine z_iinc hx (w := nI (t + 1)) (lv2 := [(8, .int (nI (t + 1))), (6, .long (Int64.ofInt (zbb (zbest (zq (zunk w d) T D) t)))), (4, .long (Int64.ofInt (zba (zbest (zq (zunk w d) T D) t)))), (3, .int (zbi (zbest (zq (zunk w d) T D) t))), (0, .ref (E.2.2.2 7)), (1, .ref (E.2.2.2 a)), (2, .int (zdr d))]) 0 dX1_mostDoubtful_76 rfl (z_inc _) (by decide) rfl ?_
          refine z_goto (tgt := 18) hx dX1_mostDoubtful_79 (by decide) ?_
          exact z_to (ih18 (t + 1) M31 (by omega) (by rw [qs31.2.1]; exact hN3) (by rw [qs31.2.1]; exact hN5) (zfr_tr hNf qs31.2.2.1) (fun p q z1 z2 => by rw [qs31.2.2.2 p q z1 z2]; exact hNs p q z1 z2) (by omega)) [0, 1, 2, 3, 4, 5, 6] (by rw [zbest_no hq]; rfl) rfl
  exact z_to (loop18 _ 0 M3 (by omega) q3.1 q3.2.2.1 (zfr_w q3.2.2.2.1 (fun c h => by omega)) (fun p q z1 z2 => by rw [q3.2.2.2.2 p q z1 z2, zGr_all]) (Nat.lt_succ_self _)) [0, 1, 2, 3, 4, 5, 6] rfl rfl
set_option maxHeartbeats 4000000 in
set_option maxRecDepth 100000 in
theorem k_X1_thoseAlone {E : zE} (hI : zI E) (M : zM) {a w n mm : Nat} {cd : Nat → Nat} {rd : Nat → Int} (ha : zRoom a) (hR : zRm M a w n mm cd rd) (d : Bool) {T : Nat → Nat → Nat → Nat → Int} {D : Nat → Nat → Int} (hT : ∀ t, t < n → zTb (zunk w d) (zGr w mm d cd rd n (fun k => !decide (k = t))) (T t) (D t)) (hrg : ∀ t, t < n → 0 < D t (zunk w d) → zrg (T t (zunk w d) (zunk w d) (zunk w d))) : zK E yX1_thoseAlone (.code yX1_thoseAlone cX1_thoseAlone 5 (some .int)) (zrm 4 99) [.ref (E.2.2.2 7), .ref (E.2.2.2 a), .int (zdr d)] M (zpi (fun v M2 => v = zwb (zq (zunk w d) T D) n ∧ zfr (fun c => c = 7 ∨ c = 10 ∨ 15 ≤ c ∧ c ≤ 26) M M2)) := by
  refine zK_of hI (by decide) (Nat.le_of_ble_eq_true rfl) (fun x hx ri rz rl rv => ?_)
  show zJ E x 0 [(0, .ref (E.2.2.2 7)), (1, .ref (E.2.2.2 a)), (2, .int (zdr d))] [] M
  have hu := zunk_le hR.2.1.2 d
  have hge := zRoom_ge ha
  have hn8 := hR.2.2.2.2.2.1
  refine z_aload_n hx 0 dX1_thoseAlone_0 rfl rfl ?_
  refine z_aload_n hx 1 dX1_thoseAlone_1 rfl rfl ?_
  refine z_iload_n hx 2 dX1_thoseAlone_2 rfl rfl ?_
  refine z_callV hx (As := [.ref (E.2.2.2 a), .int (zdr d)]) (st := []) (k_X1_gather hI M ha hR d) zw_385 zy_X1_gather ⟨rfl, rfl⟩ (by decide) (zOB_X1 E) rfl rfl rfl rfl (Nat.le_of_ble_eq_true rfl) dX1_thoseAlone_3 ?_
  rintro _ M3 ⟨rfl, q3⟩
  show zJ E x 6 _ [] _
  refine z_iconst hx (v := nI 0) dX1_thoseAlone_6 (by decide +kernel) ?_
  refine z_istore_n hx (lv2 := [(3, .int (nI 0)), (0, .ref (E.2.2.2 7)), (1, .ref (E.2.2.2 a)), (2, .int (zdr d))]) dX1_thoseAlone_7 rfl (by decide) rfl ?_
  refine z_iconst hx (v := nI 0) dX1_thoseAlone_8 (by decide +kernel) ?_
  refine z_istore hx (lv2 := [(4, .int (nI 0)), (3, .int (nI 0)), (0, .ref (E.2.2.2 7)), (1, .ref (E.2.2.2 a)), (2, .int (zdr d))]) dX1_thoseAlone_9 (by decide) rfl ?_
  have loop11 : ∀ (fuel11 : Nat) (t : Nat) (N : zM) (_ : t ≤ n) (_ : N.1 7 3 = zdr d) (_ : N.1 7 5 = nI (zunk w d)) (_ : zfr (fun c => c = 7 ∨ c = 10 ∨ 15 ≤ c ∧ c ≤ 26) M N) (_ : ∀ p q, p ≤ q → q ≤ zunk w d → N.2 (15 + 1 * p) q = Int64.ofInt (zGr w mm d cd rd n (fun _ => true) p q)), n - t < fuel11 → zJ E x 11 [(4, .int (nI t)), (3, .int (zwb (zq (zunk w d) T D) t)), (0, .ref (E.2.2.2 7)), (1, .ref (E.2.2.2 a)), (2, .int (zdr d))] [] N := by
    intro fuel11
    induction fuel11 with
    | zero =>
      intros; omega
    | succ fuel11 ih11 =>
      intro t N ht hN3 hN5 hNf hNs hfuel11
      refine z_iload hx 0 dX1_thoseAlone_11 rfl ?_
      refine z_aload_n hx 3 dX1_thoseAlone_13 rfl rfl ?_
      refine zg_X3_2 hx ha zw_87 dX1_thoseAlone_14 ?_
      refine z_eqi (zRm_fr hR hNf (by omega) (by omega) (by omega)).2.2.2.2.1 ?_
      refine z_icmp_ge_n (tgt := 52) hx (by omega) (by omega) dX1_thoseAlone_17 (by decide) (fun h17 => ?_) (fun h17 => ?_)
      · skip
        refine z_iload_n hx 1 dX1_thoseAlone_52 rfl rfl ?_
        exact ri _ _ _ _ rfl ⟨_, rfl, ⟨by rw [show t = n by omega], hNf⟩⟩ dX1_thoseAlone_53
      · skip
        refine z_aload_n hx 2 dX1_thoseAlone_20 rfl rfl ?_
        refine z_aload_n hx 3 dX1_thoseAlone_21 rfl rfl ?_
        refine z_iload hx 0 dX1_thoseAlone_22 rfl ?_
        refine z_callV hx (As := [.ref (E.2.2.2 a), .int (nI t)]) (st := []) (k_X1_solvesWithout hI N (t := t) ha (zRm_fr hR hNf (by omega) (by omega) (by omega)) (by omega) d hN3 hN5 hNs (T := T t) (D := D t) (by have h := hT t (by omega); have e : zGr w mm d cd rd n (fun k => !decide (k = t)) = (fun p q => zGr w mm d cd rd n (fun _ => true) p q - zLn w mm d (cd t) (rd t) t p * zLn w mm d (cd t) (rd t) t q) := funext (fun p => funext (fun q => zGr_sw (by omega) p q)); rw [e] at h; exact h)) zw_487 zy_X1_solvesWithout ⟨rfl, rfl⟩ (by decide) (zOB_X1 E) rfl rfl rfl rfl (Nat.le_of_ble_eq_true rfl) dX1_thoseAlone_24 ?_
        rintro _ M24 ⟨v24, rfl, q24⟩
        have qs24 := q24
        obtain ⟨q24, -⟩ := q24
        rcases q24 with ⟨rfl, q24⟩ | ⟨rfl, q24⟩
        · skip
          show zJ E x 27 _ [.int (nI 1)] _
          have hq : zq (zunk w d) T D t = some (T t (zunk w d) (zunk w d) (zunk w d), D t (zunk w d)) := if_pos q24.1
          refine z_if_eq_n (tgt := 46) hx (by decide) dX1_thoseAlone_27 (by decide) (fun h => absurd h (by decide)) (fun _ => ?_)
          refine z_aload_n hx 2 dX1_thoseAlone_30 rfl rfl ?_
          refine z_callV hx (As := []) (st := []) (k_X1_squaresAbove hI M24 (by rw [qs24.2.1]; exact hN5) hu q24.2.2) zw_491 zy_X1_squaresAbove ⟨rfl, rfl⟩ (by decide) (zOB_X1 E) rfl rfl rfl rfl (Nat.le_of_ble_eq_true rfl) dX1_thoseAlone_31 ?_
          rintro _ M31 ⟨v31, rfl, q31⟩
          obtain ⟨rfl, q31⟩ := q31
          rw [q31]
          show zJ E x 34 _ [.long (Int64.ofInt (T t (zunk w d) (zunk w d) (zunk w d)))] _
          refine z_lconst hx (v := 0) dX1_thoseAlone_34 rfl ?_
          refine z_lcmp hx dX1_thoseAlone_35 ?_
          refine z_if_ne (tgt := 46) hx dX1_thoseAlone_36 (by decide) (fun h36 => ?_) (fun h36 => ?_)
          · skip
            have hsz : ¬ T t (zunk w d) (zunk w d) (zunk w d) = 0 := fun z => h36 (by rw [z]; decide +kernel)
            refine z_iinc hx (w := nI (t + 1)) (lv2 := [(4, .int (nI (t + 1))), (3, .int (zwb (zq (zunk w d) T D) t)), (0, .ref (E.2.2.2 7)), (1, .ref (E.2.2.2 a)), (2, .int (zdr d))]) 0 dX1_thoseAlone_46 rfl (z_inc _) (by decide) rfl ?_
            refine z_goto (tgt := 11) hx dX1_thoseAlone_49 (by decide) ?_
            exact z_to (ih11 (t + 1) M24 (by omega) (by rw [qs24.2.1]; exact hN3) (by rw [qs24.2.1]; exact hN5) (zfr_tr hNf qs24.2.2.1) (fun p q z1 z2 => by rw [qs24.2.2.2 p q z1 z2]; exact hNs p q z1 z2) (by omega)) [0, 1, 2, 3, 4] (by rw [zwb, hq]; dsimp only; rw [if_neg hsz]; rfl) rfl
          · skip
            have hsz : T t (zunk w d) (zunk w d) (zunk w d) = 0 := (zeq64 (hrg t (by omega) q24.1) (b := 0) ⟨by decide, by decide⟩).mp (zcmp0 h36)
            refine z_iload_n hx 1 dX1_thoseAlone_39 rfl rfl ?_
            refine z_iconst hx (v := nI 1) dX1_thoseAlone_40 (by decide +kernel) ?_
            refine z_iload hx 0 dX1_thoseAlone_41 rfl ?_
            refine z_ishl hx dX1_thoseAlone_43 ?_
            refine z_ior hx dX1_thoseAlone_44 ?_
            refine z_istore_n hx (lv2 := [(3, .int ((zwb (zq (zunk w d) T D) t) ||| ((nI 1) <<< ((nI t) &&& 31)))), (4, .int (nI t)), (0, .ref (E.2.2.2 7)), (1, .ref (E.2.2.2 a)), (2, .int (zdr d))]) dX1_thoseAlone_45 rfl (by decide) rfl ?_
            refine z_iinc hx (w := nI (t + 1)) (lv2 := [(4, .int (nI (t + 1))), (3, .int ((zwb (zq (zunk w d) T D) t) ||| ((nI 1) <<< ((nI t) &&& 31)))), (0, .ref (E.2.2.2 7)), (1, .ref (E.2.2.2 a)), (2, .int (zdr d))]) 1 dX1_thoseAlone_46 rfl (z_inc _) (by decide) rfl ?_
            refine z_goto (tgt := 11) hx dX1_thoseAlone_49 (by decide) ?_
            exact z_to (ih11 (t + 1) M24 (by omega) (by rw [qs24.2.1]; exact hN3) (by rw [qs24.2.1]; exact hN5) (zfr_tr hNf qs24.2.2.1) (fun p q z1 z2 => by rw [qs24.2.2.2 p q z1 z2]; exact hNs p q z1 z2) (by omega)) [0, 1, 2, 3, 4] (by rw [zwb, hq]; dsimp only; rw [if_pos hsz]; rfl) rfl
        · skip
          show zJ E x 27 _ [.int (nI 0)] _
          have hq : zq (zunk w d) T D t = none := if_neg (by omega)
          refine z_if_eq_n (tgt := 46) hx (by decide) dX1_thoseAlone_27 (by decide) (fun _ => ?_) (fun h => absurd h (by decide))
          refine z_iinc hx (w := nI (t + 1)) (lv2 := [(4, .int (nI (t + 1))), (3, .int (zwb (zq (zunk w d) T D) t)), (0, .ref (E.2.2.2 7)), (1, .ref (E.2.2.2 a)), (2, .int (zdr d))]) 0 dX1_thoseAlone_46 rfl (z_inc _) (by decide) rfl ?_
          refine z_goto (tgt := 11) hx dX1_thoseAlone_49 (by decide) ?_
          exact z_to (ih11 (t + 1) M24 (by omega) (by rw [qs24.2.1]; exact hN3) (by rw [qs24.2.1]; exact hN5) (zfr_tr hNf qs24.2.2.1) (fun p q z1 z2 => by rw [qs24.2.2.2 p q z1 z2]; exact hNs p q z1 z2) (by omega)) [0, 1, 2, 3, 4] (by rw [zwb, hq]; rfl) rfl
  exact z_to (loop11 _ 0 M3 (by omega) q3.1 q3.2.2.1 (zfr_w q3.2.2.2.1 (fun c h => by omega)) (fun p q z1 z2 => by rw [q3.2.2.2.2 p q z1 z2, zGr_all]) (Nat.lt_succ_self _)) [0, 1, 2, 3, 4] rfl rfl
end
section
/-- a line less a multiple of another, so that it is 0 at ld -/
def zred (v b : Nat → Int) (ld : Nat) : Nat → Int := if v ld = 0 then v else fun i => v i * b ld - b i * v ld
def zrall (bs : Nat → Nat → Int) (ld : Nat → Nat) : Nat → (Nat → Int) → Nat → Int
  | 0, v => v
  | k + 1, v => zred (zrall bs ld k v) (bs k) (ld k)
set_option maxHeartbeats 4000000 in
set_option maxRecDepth 100000 in
theorem k_X2_reduce {E : zE} (hI : zI E) (M : zM) {c1 c2 ld cols : Nat} {v b : Nat → Int} (hc1 : zJA E c1 6) (hc2 : zJA E c2 6) (hcc : ¬ c1 = c2) (h5 : cols ≤ 5) (hld : ld < cols) (hv : ∀ i, i < cols → M.2 c1 i = Int64.ofInt (v i)) (hb : ∀ i, i < cols → M.2 c2 i = Int64.ofInt (b i)) (hrg : zrg (v ld)) : zK E yX2_reduce (.code yX2_reduce cX2_reduce 9 none) (zrm 0 0) [.ref (E.2.2.2 c1), .ref (E.2.2.2 c2), .int (nI ld), .int (nI cols)] M (zpv (fun M2 => (∀ i, i < cols → M2.2 c1 i = Int64.ofInt (zred v b ld i)) ∧ zfr (fun c => c = c1) M M2)) := by
  refine zK_of hI (by decide) (Nat.le_of_ble_eq_true rfl) (fun x hx ri rz rl rv => ?_)
  show zJ E x 0 [(0, .ref (E.2.2.2 c1)), (1, .ref (E.2.2.2 c2)), (2, .int (nI ld)), (3, .int (nI cols))] [] M
  refine z_aload_n hx 0 dX2_reduce_0 rfl rfl ?_
  refine z_iload_n hx 2 dX2_reduce_1 rfl rfl ?_
  refine z_lald_n hx hc1 (by omega) dX2_reduce_2 ?_
  refine z_eql (b := Int64.ofInt (v ld)) (hv ld hld) ?_
  refine z_lstore hx (lv2 := [(4, .long (Int64.ofInt (v ld))), (0, .ref (E.2.2.2 c1)), (1, .ref (E.2.2.2 c2)), (2, .int (nI ld)), (3, .int (nI cols))]) dX2_reduce_3 (by decide) rfl ?_
  refine z_lload hx 0 dX2_reduce_5 rfl ?_
  refine z_lconst hx (v := 0) dX2_reduce_7 rfl ?_
  refine z_lcmp hx dX2_reduce_8 ?_
  refine z_if_ne (tgt := 13) hx dX2_reduce_9 (by decide) (fun h9 => ?_) (fun h9 => ?_)
  · skip
    have hz : ¬ v ld = 0 := fun z => h9 (by rw [z]; decide +kernel)
    refine z_aload_n hx 2 dX2_reduce_13 rfl rfl ?_
    refine z_iload_n hx 3 dX2_reduce_14 rfl rfl ?_
    refine z_lald_n hx hc2 (by omega) dX2_reduce_15 ?_
    refine z_eql (b := Int64.ofInt (b ld)) (hb ld hld) ?_
    refine z_lstore hx (lv2 := [(6, .long (Int64.ofInt (b ld))), (4, .long (Int64.ofInt (v ld))), (0, .ref (E.2.2.2 c1)), (1, .ref (E.2.2.2 c2)), (2, .int (nI ld)), (3, .int (nI cols))]) dX2_reduce_16 (by decide) rfl ?_
    refine z_iconst hx (v := nI 0) dX2_reduce_18 (by decide +kernel) ?_
    refine z_istore hx (lv2 := [(8, .int (nI 0)), (6, .long (Int64.ofInt (b ld))), (4, .long (Int64.ofInt (v ld))), (0, .ref (E.2.2.2 c1)), (1, .ref (E.2.2.2 c2)), (2, .int (nI ld)), (3, .int (nI cols))]) dX2_reduce_19 (by decide) rfl ?_
    have loop21 : ∀ (fuel21 : Nat) (k : Nat) (N : zM) (_ : k ≤ cols) (_ : zfr (fun c => c = c1) M N) (_ : ∀ i, i < cols → N.2 c1 i = if i < k then Int64.ofInt (v i * b ld - b i * v ld) else Int64.ofInt (v i)), cols - k < fuel21 → zJ E x 21 [(8, .int (nI k)), (6, .long (Int64.ofInt (b ld))), (4, .long (Int64.ofInt (v ld))), (0, .ref (E.2.2.2 c1)), (1, .ref (E.2.2.2 c2)), (2, .int (nI ld)), (3, .int (nI cols))] [] N := by
      intro fuel21
      induction fuel21 with
      | zero =>
        intros; omega
      | succ fuel21 ih21 =>
        intro k N hk hNf hNs hfuel21
        refine z_iload hx 0 dX2_reduce_21 rfl ?_
        refine z_iload_n hx 6 dX2_reduce_23 rfl rfl ?_
        refine z_icmp_ge_n (tgt := 52) hx (by omega) (by omega) dX2_reduce_24 (by decide) (fun h24 => ?_) (fun h24 => ?_)
        · skip
          exact rv _ _ _ rfl ⟨rfl, ⟨fun i hi => by rw [zred, if_neg hz, hNs i hi, if_pos (by omega)], hNf⟩⟩ dX2_reduce_52
        · skip
          refine z_aload_n hx 3 dX2_reduce_27 rfl rfl ?_
          refine z_iload hx 0 dX2_reduce_28 rfl ?_
          refine z_aload_n hx 3 dX2_reduce_30 rfl rfl ?_
          refine z_iload hx 0 dX2_reduce_31 rfl ?_
          refine z_lald_n hx hc1 (by omega) dX2_reduce_33 ?_
          refine z_eql (b := Int64.ofInt (v k)) (by rw [hNs k h24, if_neg (by omega)]) ?_
          refine z_lload hx 1 dX2_reduce_34 rfl ?_
          refine z_lmul hx dX2_reduce_36 ?_
          refine z_aload_n hx 4 dX2_reduce_37 rfl rfl ?_
          refine z_iload hx 0 dX2_reduce_38 rfl ?_
          refine z_lald_n hx hc2 (by omega) dX2_reduce_40 ?_
          refine z_eql (b := Int64.ofInt (b k)) (by rw [(hNf c2 (fun z => hcc (Eq.symm z))).2]; exact hb k h24) ?_
          refine z_lload hx 2 dX2_reduce_41 rfl ?_
          refine z_lmul hx dX2_reduce_43 ?_
          refine z_lsub hx dX2_reduce_44 ?_
          refine z_last_n hx hc1 (by omega) dX2_reduce_45 ?_
          refine z_iinc hx (w := nI (k + 1)) (lv2 := [(8, .int (nI (k + 1))), (6, .long (Int64.ofInt (b ld))), (4, .long (Int64.ofInt (v ld))), (0, .ref (E.2.2.2 c1)), (1, .ref (E.2.2.2 c2)), (2, .int (nI ld)), (3, .int (nI cols))]) 0 dX2_reduce_46 rfl (z_inc _) (by decide) rfl ?_
          refine z_goto (tgt := 21) hx dX2_reduce_49 (by decide) ?_
          exact z_to (ih21 (k + 1) (zputJ N c1 k (((Int64.ofInt (v k)) * (Int64.ofInt (b ld))) - ((Int64.ofInt (b k)) * (Int64.ofInt (v ld))))) (by omega) (zfr_tr hNf (zfr_putJ rfl)) (fun i hi => by
              rw [zg_putJ]
              by_cases e : i = k
              · subst e
                rw [if_pos ⟨rfl, rfl⟩, if_pos (Nat.lt_succ_self _), zI64_mul, zI64_mul, zI64_sub]
              · rw [if_neg (fun z => e z.2), hNs i hi]
                exact zif_cong (by omega)) (by omega)) [0, 1, 2, 3, 4, 5, 6] rfl rfl
    exact z_to (loop21 _ 0 M (by omega) (zfr_rf _ _) (fun i hi => by rw [if_neg (by omega)]; exact hv i hi) (Nat.lt_succ_self _)) [0, 1, 2, 3, 4, 5, 6] rfl rfl
  · skip
    have hz : v ld = 0 := (zeq64 hrg (b := 0) ⟨by decide, by decide⟩).mp (zcmp0 h9)
    exact rv _ _ _ rfl ⟨rfl, ⟨fun i hi => by rw [zred, if_pos hz]; exact hv i hi, zfr_rf _ _⟩⟩ dX2_reduce_12
set_option maxHeartbeats 4000000 in
set_option maxRecDepth 100000 in
theorem k_X2_extended {E : zE} (hI : zI E) (M : zM) {a w n mm t r : Nat} {cd : Nat → Nat} {rd : Nat → Int} {bs : Nat → Nat → Int} {ld : Nat → Nat} (ha : zRoom a) (hR : zRm M a w n mm cd rd) (ht : t < n) (d : Bool) (hr5 : r ≤ 5) (hbs : ∀ k, k < r → ∀ i, i < zunk w d → M.2 (27 + 1 * k) i = Int64.ofInt (bs k i)) (hld : ∀ k, k < r → M.1 13 k = nI (ld k) ∧ ld k < zunk w d) (hrg : r < zunk w d → ∀ k, k ≤ r → ∀ i, i < zunk w d → zrg (zrall bs ld k (zLn w mm d (cd t) (rd t) t) i)) : zK E yX2_extended (.code yX2_extended cX2_extended 8 (some .int)) (zrm 2 46) [.ref (E.2.2.2 11), .int (nI r), .ref (E.2.2.2 a), .int (nI t), .int (zdr d)] M (zpi (fun v M2 => (zunk w d ≤ r ∧ v = nI r ∧ M2 = M) ∨ (r < zunk w d ∧ ((∃ c, c < zunk w d ∧ (∀ i, i < c → zrall bs ld r (zLn w mm d (cd t) (rd t) t) i = 0) ∧ ¬ zrall bs ld r (zLn w mm d (cd t) (rd t) t) c = 0 ∧ v = nI (r + 1) ∧ M2.1 13 r = nI c) ∨ ((∀ i, i < zunk w d → zrall bs ld r (zLn w mm d (cd t) (rd t) t) i = 0) ∧ v = nI r)) ∧ (∀ i, i < zunk w d → M2.2 (27 + 1 * r) i = Int64.ofInt (zrall bs ld r (zLn w mm d (cd t) (rd t) t) i)) ∧ (∀ k, ¬ k = r → M2.1 13 k = M.1 13 k) ∧ zfr (fun c => c = 13 ∨ c = 27 + 1 * r) M M2))) := by
  refine zK_of hI (by decide) (Nat.le_of_ble_eq_true rfl) (fun x hx ri rz rl rv => ?_)
  show zJ E x 0 [(0, .ref (E.2.2.2 11)), (1, .int (nI r)), (2, .ref (E.2.2.2 a)), (3, .int (nI t)), (4, .int (zdr d))] [] M
  have hu := zunk_le hR.2.1.2 d
  have hge := zRoom_ge ha
  refine z_aload_n hx 2 dX2_extended_0 rfl rfl ?_
  refine z_iload hx 4 dX2_extended_1 rfl ?_
  refine z_callV hx (As := [.int (zdr d)]) (st := []) (k_X3_unknowns hI M ha hR.1 d) zw_357 zy_X3_unknowns ⟨rfl, rfl⟩ (by decide) (zOB_room ha E) rfl rfl rfl rfl (Nat.le_of_ble_eq_true rfl) dX2_extended_3 ?_
  rintro _ M3 ⟨v3, rfl, q3⟩
  obtain ⟨rfl, q3⟩ := q3
  rw [q3]
  show zJ E x 6 _ [.int (nI (zunk w d))] _
  refine z_istore hx (lv2 := [(5, .int (nI (zunk w d))), (0, .ref (E.2.2.2 11)), (1, .int (nI r)), (2, .ref (E.2.2.2 a)), (3, .int (nI t)), (4, .int (zdr d))]) dX2_extended_6 (by decide) rfl ?_
  refine z_iload_n hx 2 dX2_extended_8 rfl rfl ?_
  refine z_iload hx 0 dX2_extended_9 rfl ?_
  refine z_icmp_lt_n (tgt := 16) hx (by omega) (by omega) dX2_extended_11 (by decide) (fun h11 => ?_) (fun h11 => ?_)
  · skip
    refine z_aload_n hx 1 dX2_extended_16 rfl rfl ?_
    refine zg_X2_0 hx zw_163 dX2_extended_17 ?_
    refine z_iload_n hx 2 dX2_extended_20 rfl rfl ?_
    refine z_aald_n hx (zRA_12 E) (by omega) dX2_extended_21 ?_
    refine z_astore hx (lv2 := [(6, .ref (E.2.2.2 (27 + 1 * r))), (5, .int (nI (zunk w d))), (0, .ref (E.2.2.2 11)), (1, .int (nI r)), (2, .ref (E.2.2.2 a)), (3, .int (nI t)), (4, .int (zdr d))]) dX2_extended_22 (by decide) rfl ?_
    refine z_aload_n hx 4 dX2_extended_24 rfl rfl ?_
    refine z_iload_n hx 5 dX2_extended_25 rfl rfl ?_
    refine z_iload hx 6 dX2_extended_26 rfl ?_
    refine z_aload hx 0 dX2_extended_28 rfl ?_
    refine z_callV hx (As := [.int (nI t), .int (zdr d), .ref (E.2.2.2 (27 + 1 * r))]) (st := []) (k_X3_layOut hI M ha (zJA_row (c := 27 + 1 * r) (by omega) (by omega) E) (by omega) hR.1 hR.2.1.1 hR.2.1.2 hR.2.2.1 (by have := hR.2.2.2.2.2.1; omega) (hR.2.2.2.2.2.2 t ht).1 (hR.2.2.2.2.2.2 t ht).2.1 (hR.2.2.2.2.2.2 t ht).2.2.2.1 (hR.2.2.2.2.2.2 t ht).2.2.2.2.1 (hR.2.2.2.2.2.2 t ht).2.2.2.2.2 hR.2.2.2.1 (hR.2.2.2.2.2.2 t ht).2.2.1 d) zw_361 zy_X3_layOut ⟨rfl, rfl⟩ (by decide) (zOB_room ha E) rfl rfl rfl rfl (Nat.le_of_ble_eq_true rfl) dX2_extended_30 ?_
    rintro _ M30 ⟨rfl, q30⟩
    subst q30
    show zJ E x 33 _ [] _
    refine z_iconst hx (v := nI 0) dX2_extended_33 (by decide +kernel) ?_
    refine z_istore hx (lv2 := [(7, .int (nI 0)), (6, .ref (E.2.2.2 (27 + 1 * r))), (5, .int (nI (zunk w d))), (0, .ref (E.2.2.2 11)), (1, .int (nI r)), (2, .ref (E.2.2.2 a)), (3, .int (nI t)), (4, .int (zdr d))]) dX2_extended_34 (by decide) rfl ?_
    have loop36 : ∀ (fuel36 : Nat) (k : Nat) (N : zM) (_ : k ≤ r) (_ : zfr (fun c => c = 27 + 1 * r) M N) (_ : ∀ i, i < zunk w d → N.2 (27 + 1 * r) i = Int64.ofInt (zrall bs ld k (zLn w mm d (cd t) (rd t) t) i)), r - k < fuel36 → zJ E x 36 [(7, .int (nI k)), (6, .ref (E.2.2.2 (27 + 1 * r))), (5, .int (nI (zunk w d))), (0, .ref (E.2.2.2 11)), (1, .int (nI r)), (2, .ref (E.2.2.2 a)), (3, .int (nI t)), (4, .int (zdr d))] [] N := by
      intro fuel36
      induction fuel36 with
      | zero =>
        intros; omega
      | succ fuel36 ih36 =>
        intro k N hk hNf hNs hfuel36
        refine z_iload hx 0 dX2_extended_36 rfl ?_
        refine z_iload_n hx 4 dX2_extended_38 rfl rfl ?_
        refine z_icmp_ge_n (tgt := 69) hx (by omega) (by omega) dX2_extended_39 (by decide) (fun h39 => ?_) (fun h39 => ?_)
        · skip
          have hkr : k = r := by omega
          refine z_iconst hx (v := nI 0) dX2_extended_69 (by decide +kernel) ?_
          refine z_istore hx (lv2 := [(7, .int (nI 0)), (6, .ref (E.2.2.2 (27 + 1 * r))), (5, .int (nI (zunk w d))), (0, .ref (E.2.2.2 11)), (1, .int (nI r)), (2, .ref (E.2.2.2 a)), (3, .int (nI t)), (4, .int (zdr d))]) dX2_extended_70 (by decide) rfl ?_
          have loop72 : ∀ (fuel72 : Nat) (c : Nat) (_ : c ≤ zunk w d) (_ : ∀ i, i < c → zrall bs ld r (zLn w mm d (cd t) (rd t) t) i = 0), zunk w d - c < fuel72 → zJ E x 72 [(7, .int (nI c)), (6, .ref (E.2.2.2 (27 + 1 * r))), (5, .int (nI (zunk w d))), (0, .ref (E.2.2.2 11)), (1, .int (nI r)), (2, .ref (E.2.2.2 a)), (3, .int (nI t)), (4, .int (zdr d))] [] N := by
            intro fuel72
            induction fuel72 with
            | zero =>
              intros; omega
            | succ fuel72 ih72 =>
              intro c hc hz hfuel72
              refine z_iload hx 0 dX2_extended_72 rfl ?_
              refine z_iload hx 2 dX2_extended_74 rfl ?_
              refine z_icmp_ge_n (tgt := 107) hx (by omega) (by omega) dX2_extended_76 (by decide) (fun h76 => ?_) (fun h76 => ?_)
              · skip
                refine z_iload_n hx 4 dX2_extended_107 rfl rfl ?_
                exact ri _ _ _ _ rfl ⟨_, rfl, Or.inr ⟨h11, Or.inr ⟨fun i hi => hz i (by omega), rfl⟩, fun i hi => by rw [hNs i hi, hkr], fun i hi => by rw [(hNf 13 (by omega)).1], zfr_w hNf (fun c h => Or.inr h)⟩⟩ dX2_extended_108
              · skip
                refine z_aload hx 1 dX2_extended_79 rfl ?_
                refine z_iload hx 0 dX2_extended_81 rfl ?_
                refine z_lald_n hx (zJA_row (by omega) (by omega) E) (by omega) dX2_extended_83 ?_
                refine z_eql (b := Int64.ofInt (zrall bs ld k (zLn w mm d (cd t) (rd t) t) c)) (hNs c h76) ?_
                refine z_lconst hx (v := 0) dX2_extended_84 rfl ?_
                refine z_lcmp hx dX2_extended_85 ?_
                refine z_if_eq (tgt := 101) hx dX2_extended_86 (by decide) (fun h86 => ?_) (fun h86 => ?_)
                · skip
                  have hz2 : zrall bs ld r (zLn w mm d (cd t) (rd t) t) c = 0 := by
                    have z := (zeq64 (by rw [hkr]; exact hrg h11 r (Nat.le_refl _) c h76) (b := 0) ⟨by decide, by decide⟩).mp (zcmp0 h86)
                    rwa [hkr] at z
                  refine z_iinc hx (w := nI (c + 1)) (lv2 := [(7, .int (nI (c + 1))), (6, .ref (E.2.2.2 (27 + 1 * r))), (5, .int (nI (zunk w d))), (0, .ref (E.2.2.2 11)), (1, .int (nI r)), (2, .ref (E.2.2.2 a)), (3, .int (nI t)), (4, .int (zdr d))]) 0 dX2_extended_101 rfl (z_inc _) (by decide) rfl ?_
                  refine z_goto (tgt := 72) hx dX2_extended_104 (by decide) ?_
                  exact z_to (ih72 (c + 1) (by omega) (fun i hi => by rcases Nat.lt_or_ge i c with z | z; exact hz i z; rw [show i = c by omega]; exact hz2) (by omega)) [0, 1, 2, 3, 4, 5, 6, 7] rfl rfl
                · skip
                  have hz2 : ¬ zrall bs ld r (zLn w mm d (cd t) (rd t) t) c = 0 := fun z => h86 (by rw [hkr, z]; decide +kernel)
                  refine z_aload_n hx 3 dX2_extended_89 rfl rfl ?_
                  refine zg_X2_1 hx zw_164 dX2_extended_90 ?_
                  refine z_iload_n hx 4 dX2_extended_93 rfl rfl ?_
                  refine z_iload hx 0 dX2_extended_94 rfl ?_
                  refine z_iast_n hx (zIA_13 E) (by omega) dX2_extended_96 ?_
                  refine z_iload_n hx 4 dX2_extended_97 rfl rfl ?_
                  refine z_iconst hx (v := nI 1) dX2_extended_98 (by decide +kernel) ?_
                  refine z_iadd_n hx dX2_extended_99 ?_
                  exact ri _ _ _ _ rfl ⟨_, rfl, Or.inr ⟨h11, Or.inl ⟨c, h76, hz, hz2, rfl, zhtI⟩, fun i hi => by rw [show (zputI N 13 r (nI c)).2 = N.2 from rfl, hNs i hi, hkr], fun i hi => by rw [zg_putI, if_neg (fun z => hi z.2), (hNf 13 (by omega)).1], zfr_tr (zfr_w hNf (fun c h => Or.inr h)) (zfr_putI (Or.inl rfl))⟩⟩ dX2_extended_100
          exact z_to (loop72 _ 0 (by omega) (fun i hi => by omega) (Nat.lt_succ_self _)) [0, 1, 2, 3, 4, 5, 6, 7] rfl rfl
        · skip
          refine z_aload hx 1 dX2_extended_42 rfl ?_
          refine z_aload_n hx 3 dX2_extended_44 rfl rfl ?_
          refine zg_X2_0 hx zw_163 dX2_extended_45 ?_
          refine z_iload hx 0 dX2_extended_48 rfl ?_
          refine z_aald_n hx (zRA_12 E) (by omega) dX2_extended_50 ?_
          refine z_aload_n hx 3 dX2_extended_51 rfl rfl ?_
          refine zg_X2_1 hx zw_164 dX2_extended_52 ?_
          refine z_iload hx 0 dX2_extended_55 rfl ?_
          refine z_iald_n hx (zIA_13 E) (by omega) dX2_extended_57 ?_
          refine z_eqi (b := nI (ld k)) (by rw [(hNf 13 (by omega)).1]; exact (hld k h39).1) ?_
          refine z_iload hx 2 dX2_extended_58 rfl ?_
          refine z_callS hx (As := [.ref (E.2.2.2 (27 + 1 * r)), .ref (E.2.2.2 (27 + 1 * k)), .int (nI (ld k)), .int (nI (zunk w d))]) (st := []) (k_X2_reduce hI N (c1 := 27 + 1 * r) (c2 := 27 + 1 * k) (zJA_row (by omega) (by omega) E) (zJA_row (by omega) (by omega) E) (by omega) hu (hld k h39).2 hNs (fun i hi => by rw [(hNf _ (by omega)).2]; exact hbs k h39 i hi) (hrg h11 k (by omega) _ (hld k h39).2)) zw_369 zy_X2_reduce ⟨rfl, rfl⟩ (by decide) rfl rfl (Nat.le_of_ble_eq_true rfl) dX2_extended_60 ?_
          rintro _ M60 ⟨rfl, q60⟩
          show zJ E x 63 _ [] _
          refine z_iinc hx (w := nI (k + 1)) (lv2 := [(7, .int (nI (k + 1))), (6, .ref (E.2.2.2 (27 + 1 * r))), (5, .int (nI (zunk w d))), (0, .ref (E.2.2.2 11)), (1, .int (nI r)), (2, .ref (E.2.2.2 a)), (3, .int (nI t)), (4, .int (zdr d))]) 0 dX2_extended_63 rfl (z_inc _) (by decide) rfl ?_
          refine z_goto (tgt := 36) hx dX2_extended_66 (by decide) ?_
          exact z_to (ih36 (k + 1) M60 (by omega) (zfr_tr hNf q60.2) (fun i hi => q60.1 i hi) (by omega)) [0, 1, 2, 3, 4, 5, 6, 7] rfl rfl
    exact z_to (loop36 _ 0 (zsetJ M (27 + 1 * r) (fun i => if i ≤ zunk w d then Int64.ofInt (zLn w mm d (cd t) (rd t) t i) else M.2 (27 + 1 * r) i)) (by omega) (zfr_setJ rfl) (fun i hi => by rw [zg_setJ, if_pos rfl, if_pos (by omega)]; rfl) (Nat.lt_succ_self _)) [0, 1, 2, 3, 4, 5, 6, 7] rfl rfl
  · skip
    refine z_iload_n hx 2 dX2_extended_14 rfl rfl ?_
    exact ri _ _ _ _ rfl ⟨_, rfl, Or.inl ⟨h11, rfl, rfl⟩⟩ dX2_extended_15
end
