def lw_okq (q : MethodName × Nat) : Prop := (q.1.cls ≠ "java/lang/invoke/MethodHandle" ∧ q.1.cls ≠ "java/lang/invoke/VarHandle") ∧ Cond.instantiable q.1.cls q.2 ∈ tables_1 ∧ Cond.privateMethod q.1 ∈ tables_1 ∧ Cond.instanceMethod q.1 ∈ tables_1
theorem lw_p0 : lw_okq (⟨"BalanceRoom$Text", "fits", "(I)Z"⟩, 2) := ⟨⟨by decide +kernel, by decide +kernel⟩, List.mem_of_getElem? (i := 20) (by decide +kernel), List.mem_of_getElem? (i := 181) (by decide +kernel), List.mem_of_getElem? (i := 182) (by decide +kernel)⟩
theorem lw_p1 : lw_okq (⟨"BalanceRoom$Text", "figureAt", "(I)I"⟩, 2) := ⟨⟨by decide +kernel, by decide +kernel⟩, List.mem_of_getElem? (i := 20) (by decide +kernel), List.mem_of_getElem? (i := 212) (by decide +kernel), List.mem_of_getElem? (i := 213) (by decide +kernel)⟩
theorem lw_p2 : lw_okq (⟨"BalanceRoom$Text", "startOf", "(I)I"⟩, 2) := ⟨⟨by decide +kernel, by decide +kernel⟩, List.mem_of_getElem? (i := 20) (by decide +kernel), List.mem_of_getElem? (i := 227) (by decide +kernel), List.mem_of_getElem? (i := 228) (by decide +kernel)⟩
theorem lw_p3 : lw_okq (⟨"BalanceRoom$Ranks", "extended", "(ILBalanceRoom$Room;IZ)I"⟩, 3) := ⟨⟨by decide +kernel, by decide +kernel⟩, List.mem_of_getElem? (i := 119) (by decide +kernel), List.mem_of_getElem? (i := 316) (by decide +kernel), List.mem_of_getElem? (i := 317) (by decide +kernel)⟩
theorem lw_p4 : lw_okq (⟨"BalanceRoom$Fit", "put", "(LBalanceRoom$Room;II)V"⟩, 7) := ⟨⟨by decide +kernel, by decide +kernel⟩, List.mem_of_getElem? (i := 86) (by decide +kernel), List.mem_of_getElem? (i := 353) (by decide +kernel), List.mem_of_getElem? (i := 354) (by decide +kernel)⟩
theorem lw_p5 : lw_okq (⟨"BalanceRoom$Fit", "sweepAll", "(Z)Z"⟩, 7) := ⟨⟨by decide +kernel, by decide +kernel⟩, List.mem_of_getElem? (i := 86) (by decide +kernel), List.mem_of_getElem? (i := 358) (by decide +kernel), List.mem_of_getElem? (i := 359) (by decide +kernel)⟩
theorem lw_p6 : lw_okq (⟨"BalanceRoom$Fit", "sweep", "(II)V"⟩, 7) := ⟨⟨by decide +kernel, by decide +kernel⟩, List.mem_of_getElem? (i := 86) (by decide +kernel), List.mem_of_getElem? (i := 363) (by decide +kernel), List.mem_of_getElem? (i := 364) (by decide +kernel)⟩
theorem lw_p7 : lw_okq (⟨"BalanceRoom$Fit", "sweepRow", "(IIJ)V"⟩, 7) := ⟨⟨by decide +kernel, by decide +kernel⟩, List.mem_of_getElem? (i := 86) (by decide +kernel), List.mem_of_getElem? (i := 367) (by decide +kernel), List.mem_of_getElem? (i := 368) (by decide +kernel)⟩
theorem lw_p8 : lw_okq (⟨"BalanceRoom$Fit", "solvesWithout", "(LBalanceRoom$Room;I)Z"⟩, 7) := ⟨⟨by decide +kernel, by decide +kernel⟩, List.mem_of_getElem? (i := 86) (by decide +kernel), List.mem_of_getElem? (i := 450) (by decide +kernel), List.mem_of_getElem? (i := 451) (by decide +kernel)⟩
theorem lw_p9 : lw_okq (⟨"BalanceRoom", "holds", "(I)Z"⟩, 9) := ⟨⟨by decide +kernel, by decide +kernel⟩, List.mem_of_getElem? (i := 12) (by decide +kernel), List.mem_of_getElem? (i := 469) (by decide +kernel), List.mem_of_getElem? (i := 470) (by decide +kernel)⟩
theorem lw_p10 : lw_okq (⟨"BalanceRoom", "exchanged", "(II)Z"⟩, 9) := ⟨⟨by decide +kernel, by decide +kernel⟩, List.mem_of_getElem? (i := 12) (by decide +kernel), List.mem_of_getElem? (i := 473) (by decide +kernel), List.mem_of_getElem? (i := 474) (by decide +kernel)⟩
theorem lw_p11 : lw_okq (⟨"BalanceRoom", "removed", "(I)Z"⟩, 9) := ⟨⟨by decide +kernel, by decide +kernel⟩, List.mem_of_getElem? (i := 12) (by decide +kernel), List.mem_of_getElem? (i := 477) (by decide +kernel), List.mem_of_getElem? (i := 478) (by decide +kernel)⟩
theorem lw_p12 : lw_okq (⟨"BalanceRoom", "masterSet", "(I)Z"⟩, 9) := ⟨⟨by decide +kernel, by decide +kernel⟩, List.mem_of_getElem? (i := 12) (by decide +kernel), List.mem_of_getElem? (i := 481) (by decide +kernel), List.mem_of_getElem? (i := 482) (by decide +kernel)⟩
theorem lw_p13 : lw_okq (⟨"BalanceRoom", "drawReadings", "(I)V"⟩, 9) := ⟨⟨by decide +kernel, by decide +kernel⟩, List.mem_of_getElem? (i := 12) (by decide +kernel), List.mem_of_getElem? (i := 517) (by decide +kernel), List.mem_of_getElem? (i := 518) (by decide +kernel)⟩
theorem lw_p14 : lw_okq (⟨"BalanceRoomModel", "readRoom", "()I"⟩, 24) := ⟨⟨by decide +kernel, by decide +kernel⟩, List.mem_of_getElem? (i := 533) (by decide +kernel), List.mem_of_getElem? (i := 628) (by decide +kernel), List.mem_of_getElem? (i := 629) (by decide +kernel)⟩
theorem lw_p15 : lw_okq (⟨"BalanceRoomModel", "readHead", "()Z"⟩, 24) := ⟨⟨by decide +kernel, by decide +kernel⟩, List.mem_of_getElem? (i := 533) (by decide +kernel), List.mem_of_getElem? (i := 632) (by decide +kernel), List.mem_of_getElem? (i := 633) (by decide +kernel)⟩
def lw_privs_1 : List (MethodName × Nat) := [(⟨"BalanceRoom$Text", "fits", "(I)Z"⟩, 2), (⟨"BalanceRoom$Text", "figureAt", "(I)I"⟩, 2), (⟨"BalanceRoom$Text", "startOf", "(I)I"⟩, 2), (⟨"BalanceRoom$Ranks", "extended", "(ILBalanceRoom$Room;IZ)I"⟩, 3), (⟨"BalanceRoom$Fit", "put", "(LBalanceRoom$Room;II)V"⟩, 7), (⟨"BalanceRoom$Fit", "sweepAll", "(Z)Z"⟩, 7), (⟨"BalanceRoom$Fit", "sweep", "(II)V"⟩, 7), (⟨"BalanceRoom$Fit", "sweepRow", "(IIJ)V"⟩, 7), (⟨"BalanceRoom$Fit", "solvesWithout", "(LBalanceRoom$Room;I)Z"⟩, 7), (⟨"BalanceRoom", "holds", "(I)Z"⟩, 9), (⟨"BalanceRoom", "exchanged", "(II)Z"⟩, 9), (⟨"BalanceRoom", "removed", "(I)Z"⟩, 9), (⟨"BalanceRoom", "masterSet", "(I)Z"⟩, 9), (⟨"BalanceRoom", "drawReadings", "(I)V"⟩, 9), (⟨"BalanceRoomModel", "readRoom", "()I"⟩, 24), (⟨"BalanceRoomModel", "readHead", "()Z"⟩, 24)]
theorem lw_r1 : ∀ q ∈ lw_privs_1, lw_okq q := List.forall_mem_cons.mpr ⟨lw_p0, List.forall_mem_cons.mpr ⟨lw_p1, List.forall_mem_cons.mpr ⟨lw_p2, List.forall_mem_cons.mpr ⟨lw_p3, List.forall_mem_cons.mpr ⟨lw_p4, List.forall_mem_cons.mpr ⟨lw_p5, List.forall_mem_cons.mpr ⟨lw_p6, List.forall_mem_cons.mpr ⟨lw_p7, List.forall_mem_cons.mpr ⟨lw_p8, List.forall_mem_cons.mpr ⟨lw_p9, List.forall_mem_cons.mpr ⟨lw_p10, List.forall_mem_cons.mpr ⟨lw_p11, List.forall_mem_cons.mpr ⟨lw_p12, List.forall_mem_cons.mpr ⟨lw_p13, List.forall_mem_cons.mpr ⟨lw_p14, List.forall_mem_cons.mpr ⟨lw_p15, fun _ h => absurd h List.not_mem_nil⟩⟩⟩⟩⟩⟩⟩⟩⟩⟩⟩⟩⟩⟩⟩⟩
theorem lw_p16 : lw_okq (⟨"BalanceRoomModel", "figure", "(II)I"⟩, 24) := ⟨⟨by decide +kernel, by decide +kernel⟩, List.mem_of_getElem? (i := 533) (by decide +kernel), List.mem_of_getElem? (i := 636) (by decide +kernel), List.mem_of_getElem? (i := 637) (by decide +kernel)⟩
theorem lw_p17 : lw_okq (⟨"BalanceRoomModel", "readWeighing", "()Z"⟩, 24) := ⟨⟨by decide +kernel, by decide +kernel⟩, List.mem_of_getElem? (i := 533) (by decide +kernel), List.mem_of_getElem? (i := 640) (by decide +kernel), List.mem_of_getElem? (i := 641) (by decide +kernel)⟩
theorem lw_p18 : lw_okq (⟨"BalanceRoomModel", "sign", "(Z)I"⟩, 24) := ⟨⟨by decide +kernel, by decide +kernel⟩, List.mem_of_getElem? (i := 533) (by decide +kernel), List.mem_of_getElem? (i := 644) (by decide +kernel), List.mem_of_getElem? (i := 645) (by decide +kernel)⟩
theorem lw_p19 : lw_okq (⟨"BalanceRoomModel", "noWeighing", "(I)Z"⟩, 24) := ⟨⟨by decide +kernel, by decide +kernel⟩, List.mem_of_getElem? (i := 533) (by decide +kernel), List.mem_of_getElem? (i := 659) (by decide +kernel), List.mem_of_getElem? (i := 660) (by decide +kernel)⟩
theorem lw_p20 : lw_okq (⟨"BalanceRoomModel", "isCode", "(I)Z"⟩, 24) := ⟨⟨by decide +kernel, by decide +kernel⟩, List.mem_of_getElem? (i := 533) (by decide +kernel), List.mem_of_getElem? (i := 671) (by decide +kernel), List.mem_of_getElem? (i := 672) (by decide +kernel)⟩
theorem lw_p21 : lw_okq (⟨"BalanceRoomModel", "note", "()V"⟩, 24) := ⟨⟨by decide +kernel, by decide +kernel⟩, List.mem_of_getElem? (i := 533) (by decide +kernel), List.mem_of_getElem? (i := 680) (by decide +kernel), List.mem_of_getElem? (i := 681) (by decide +kernel)⟩
theorem lw_p22 : lw_okq (⟨"BalanceRoomModel", "rankOf", "([IIZ)I"⟩, 24) := ⟨⟨by decide +kernel, by decide +kernel⟩, List.mem_of_getElem? (i := 533) (by decide +kernel), List.mem_of_getElem? (i := 718) (by decide +kernel), List.mem_of_getElem? (i := 719) (by decide +kernel)⟩
theorem lw_p23 : lw_okq (⟨"BalanceRoomModel", "layGram", "([IIZ)V"⟩, 24) := ⟨⟨by decide +kernel, by decide +kernel⟩, List.mem_of_getElem? (i := 533) (by decide +kernel), List.mem_of_getElem? (i := 722) (by decide +kernel), List.mem_of_getElem? (i := 723) (by decide +kernel)⟩
theorem lw_p24 : lw_okq (⟨"BalanceRoomModel", "layColumns", "([IIZ)V"⟩, 24) := ⟨⟨by decide +kernel, by decide +kernel⟩, List.mem_of_getElem? (i := 533) (by decide +kernel), List.mem_of_getElem? (i := 729) (by decide +kernel), List.mem_of_getElem? (i := 730) (by decide +kernel)⟩
theorem lw_p25 : lw_okq (⟨"BalanceRoomModel", "panOf", "(II)I"⟩, 24) := ⟨⟨by decide +kernel, by decide +kernel⟩, List.mem_of_getElem? (i := 533) (by decide +kernel), List.mem_of_getElem? (i := 733) (by decide +kernel), List.mem_of_getElem? (i := 734) (by decide +kernel)⟩
theorem lw_p26 : lw_okq (⟨"BalanceRoomModel", "columns", "()I"⟩, 24) := ⟨⟨by decide +kernel, by decide +kernel⟩, List.mem_of_getElem? (i := 533) (by decide +kernel), List.mem_of_getElem? (i := 740) (by decide +kernel), List.mem_of_getElem? (i := 741) (by decide +kernel)⟩
theorem lw_p27 : lw_okq (⟨"BalanceRoomModel", "minor", "(II)J"⟩, 24) := ⟨⟨by decide +kernel, by decide +kernel⟩, List.mem_of_getElem? (i := 533) (by decide +kernel), List.mem_of_getElem? (i := 747) (by decide +kernel), List.mem_of_getElem? (i := 748) (by decide +kernel)⟩
theorem lw_p28 : lw_okq (⟨"BalanceRoomModel", "determinant", "(I)J"⟩, 24) := ⟨⟨by decide +kernel, by decide +kernel⟩, List.mem_of_getElem? (i := 533) (by decide +kernel), List.mem_of_getElem? (i := 751) (by decide +kernel), List.mem_of_getElem? (i := 752) (by decide +kernel)⟩
theorem lw_p29 : lw_okq (⟨"BalanceRoomModel", "noColumn", "(IZ)Z"⟩, 24) := ⟨⟨by decide +kernel, by decide +kernel⟩, List.mem_of_getElem? (i := 533) (by decide +kernel), List.mem_of_getElem? (i := 759) (by decide +kernel), List.mem_of_getElem? (i := 760) (by decide +kernel)⟩
theorem lw_p30 : lw_okq (⟨"BalanceRoomModel", "isLaid", "([IIZ)Z"⟩, 24) := ⟨⟨by decide +kernel, by decide +kernel⟩, List.mem_of_getElem? (i := 533) (by decide +kernel), List.mem_of_getElem? (i := 764) (by decide +kernel), List.mem_of_getElem? (i := 765) (by decide +kernel)⟩
theorem lw_p31 : lw_okq (⟨"BalanceRoomModel", "layFraction", "(JJ)V"⟩, 24) := ⟨⟨by decide +kernel, by decide +kernel⟩, List.mem_of_getElem? (i := 533) (by decide +kernel), List.mem_of_getElem? (i := 769) (by decide +kernel), List.mem_of_getElem? (i := 770) (by decide +kernel)⟩
def lw_privs_2 : List (MethodName × Nat) := [(⟨"BalanceRoomModel", "figure", "(II)I"⟩, 24), (⟨"BalanceRoomModel", "readWeighing", "()Z"⟩, 24), (⟨"BalanceRoomModel", "sign", "(Z)I"⟩, 24), (⟨"BalanceRoomModel", "noWeighing", "(I)Z"⟩, 24), (⟨"BalanceRoomModel", "isCode", "(I)Z"⟩, 24), (⟨"BalanceRoomModel", "note", "()V"⟩, 24), (⟨"BalanceRoomModel", "rankOf", "([IIZ)I"⟩, 24), (⟨"BalanceRoomModel", "layGram", "([IIZ)V"⟩, 24), (⟨"BalanceRoomModel", "layColumns", "([IIZ)V"⟩, 24), (⟨"BalanceRoomModel", "panOf", "(II)I"⟩, 24), (⟨"BalanceRoomModel", "columns", "()I"⟩, 24), (⟨"BalanceRoomModel", "minor", "(II)J"⟩, 24), (⟨"BalanceRoomModel", "determinant", "(I)J"⟩, 24), (⟨"BalanceRoomModel", "noColumn", "(IZ)Z"⟩, 24), (⟨"BalanceRoomModel", "isLaid", "([IIZ)Z"⟩, 24), (⟨"BalanceRoomModel", "layFraction", "(JJ)V"⟩, 24)]
theorem lw_r2 : ∀ q ∈ lw_privs_2, lw_okq q := List.forall_mem_cons.mpr ⟨lw_p16, List.forall_mem_cons.mpr ⟨lw_p17, List.forall_mem_cons.mpr ⟨lw_p18, List.forall_mem_cons.mpr ⟨lw_p19, List.forall_mem_cons.mpr ⟨lw_p20, List.forall_mem_cons.mpr ⟨lw_p21, List.forall_mem_cons.mpr ⟨lw_p22, List.forall_mem_cons.mpr ⟨lw_p23, List.forall_mem_cons.mpr ⟨lw_p24, List.forall_mem_cons.mpr ⟨lw_p25, List.forall_mem_cons.mpr ⟨lw_p26, List.forall_mem_cons.mpr ⟨lw_p27, List.forall_mem_cons.mpr ⟨lw_p28, List.forall_mem_cons.mpr ⟨lw_p29, List.forall_mem_cons.mpr ⟨lw_p30, List.forall_mem_cons.mpr ⟨lw_p31, fun _ h => absurd h List.not_mem_nil⟩⟩⟩⟩⟩⟩⟩⟩⟩⟩⟩⟩⟩⟩⟩⟩
theorem lw_p32 : lw_okq (⟨"BalanceRoomModel", "told", "(Z)J"⟩, 24) := ⟨⟨by decide +kernel, by decide +kernel⟩, List.mem_of_getElem? (i := 533) (by decide +kernel), List.mem_of_getElem? (i := 776) (by decide +kernel), List.mem_of_getElem? (i := 777) (by decide +kernel)⟩
theorem lw_p33 : lw_okq (⟨"BalanceRoomModel", "layTotal", "()V"⟩, 24) := ⟨⟨by decide +kernel, by decide +kernel⟩, List.mem_of_getElem? (i := 533) (by decide +kernel), List.mem_of_getElem? (i := 788) (by decide +kernel), List.mem_of_getElem? (i := 789) (by decide +kernel)⟩
theorem lw_p34 : lw_okq (⟨"BalanceRoomModel", "laySquares", "()V"⟩, 24) := ⟨⟨by decide +kernel, by decide +kernel⟩, List.mem_of_getElem? (i := 533) (by decide +kernel), List.mem_of_getElem? (i := 800) (by decide +kernel), List.mem_of_getElem? (i := 801) (by decide +kernel)⟩
theorem lw_p35 : lw_okq (⟨"BalanceRoomModel", "doubtfulOf", "([IZ)I"⟩, 24) := ⟨⟨by decide +kernel, by decide +kernel⟩, List.mem_of_getElem? (i := 533) (by decide +kernel), List.mem_of_getElem? (i := 816) (by decide +kernel), List.mem_of_getElem? (i := 817) (by decide +kernel)⟩
theorem lw_p36 : lw_okq (⟨"BalanceRoomModel", "does", "(III)Z"⟩, 24) := ⟨⟨by decide +kernel, by decide +kernel⟩, List.mem_of_getElem? (i := 533) (by decide +kernel), List.mem_of_getElem? (i := 833) (by decide +kernel), List.mem_of_getElem? (i := 834) (by decide +kernel)⟩
theorem lw_p37 : lw_okq (⟨"BalanceRoomModel", "isWorth", "(II)Z"⟩, 24) := ⟨⟨by decide +kernel, by decide +kernel⟩, List.mem_of_getElem? (i := 533) (by decide +kernel), List.mem_of_getElem? (i := 837) (by decide +kernel), List.mem_of_getElem? (i := 838) (by decide +kernel)⟩
def lw_privs_3 : List (MethodName × Nat) := [(⟨"BalanceRoomModel", "told", "(Z)J"⟩, 24), (⟨"BalanceRoomModel", "layTotal", "()V"⟩, 24), (⟨"BalanceRoomModel", "laySquares", "()V"⟩, 24), (⟨"BalanceRoomModel", "doubtfulOf", "([IZ)I"⟩, 24), (⟨"BalanceRoomModel", "does", "(III)Z"⟩, 24), (⟨"BalanceRoomModel", "isWorth", "(II)Z"⟩, 24)]
theorem lw_r3 : ∀ q ∈ lw_privs_3, lw_okq q := List.forall_mem_cons.mpr ⟨lw_p32, List.forall_mem_cons.mpr ⟨lw_p33, List.forall_mem_cons.mpr ⟨lw_p34, List.forall_mem_cons.mpr ⟨lw_p35, List.forall_mem_cons.mpr ⟨lw_p36, List.forall_mem_cons.mpr ⟨lw_p37, fun _ h => absurd h List.not_mem_nil⟩⟩⟩⟩⟩⟩
def lw_privs : List (MethodName × Nat) := lw_privs_1 ++ (lw_privs_2 ++ (lw_privs_3))
def lw_tbl : List Cond := k2_sels lw_privs ++ tables_1
theorem lw_privs_ok : ∀ q ∈ lw_privs, lw_okq q := by
  show ∀ q ∈ lw_privs_1 ++ (lw_privs_2 ++ (lw_privs_3)), lw_okq q
  exact List.forall_mem_append.mpr ⟨lw_r1, List.forall_mem_append.mpr ⟨lw_r2, lw_r3⟩⟩
def RX0 : String := "BalanceRoom$Acts"
def TX0 : u_T := fun k => match k with
  | 0 => ("BalanceRoom$Acts", "before", "[LBalanceRoom$Room;", true)
  | 1 => ("BalanceRoom$Acts", "oldest", "I", false)
  | _ => ("BalanceRoom$Acts", "size", "I", false)
def tyX0 : Nat → FieldType := fun k => match k with
  | 0 => .array (.object "BalanceRoom$Room")
  | 1 => .int
  | _ => .int
abbrev wsX00 : List Cond := u_ws RX0 TX0 3
theorem nmX0 : ∀ a, a < 3 → ∀ b, b < 3 → a ≠ b → (TX0 a).2.1 ≠ (TX0 b).2.1 := by decide +kernel
theorem tyX0_ok : ∀ k, k < 3 → parseFieldDescriptor (TX0 k).2.2.1 = some (tyX0 k) := by decide +kernel
abbrev cX0_init : ByteArray := prog_2_method_1_code
def yX0_init : MethodName := ⟨RX0, "<init>", "()V"⟩
abbrev cX0_remember : ByteArray := prog_2_method_2_code
def yX0_remember : MethodName := ⟨RX0, "remember", "(LBalanceRoom$Room;)V"⟩
abbrev cX0_takeBack : ByteArray := prog_2_method_3_code
def yX0_takeBack : MethodName := ⟨RX0, "takeBack", "(LBalanceRoom$Room;)V"⟩
abbrev cX0_forgetAll : ByteArray := prog_2_method_4_code
def yX0_forgetAll : MethodName := ⟨RX0, "forgetAll", "()V"⟩
def RX1 : String := "BalanceRoom$Fit"
def TX1 : u_T := fun k => match k with
  | 0 => ("BalanceRoom$Fit", "sums", "[[J", true)
  | 1 => ("BalanceRoom$Fit", "swept", "[[J", true)
  | 2 => ("BalanceRoom$Fit", "line", "[J", true)
  | 3 => ("BalanceRoom$Fit", "withDrift", "Z", false)
  | 4 => ("BalanceRoom$Fit", "weightsHere", "I", false)
  | 5 => ("BalanceRoom$Fit", "unknownsHere", "I", false)
  | _ => ("BalanceRoom$Fit", "below", "J", false)
def tyX1 : Nat → FieldType := fun k => match k with
  | 0 => .array (.array .long)
  | 1 => .array (.array .long)
  | 2 => .array .long
  | 3 => .boolean
  | 4 => .int
  | 5 => .int
  | _ => .long
abbrev wsX10 : List Cond := u_ws RX1 TX1 7
theorem nmX1 : ∀ a, a < 7 → ∀ b, b < 7 → a ≠ b → (TX1 a).2.1 ≠ (TX1 b).2.1 := by decide +kernel
theorem tyX1_ok : ∀ k, k < 7 → parseFieldDescriptor (TX1 k).2.2.1 = some (tyX1 k) := by decide +kernel
abbrev cX1_init : ByteArray := prog_3_method_1_code
def yX1_init : MethodName := ⟨RX1, "<init>", "()V"⟩
abbrev cX1_solves : ByteArray := prog_3_method_2_code
def yX1_solves : MethodName := ⟨RX1, "solves", "(LBalanceRoom$Room;Z)Z"⟩
abbrev cX1_solvesWith : ByteArray := prog_3_method_3_code
def yX1_solvesWith : MethodName := ⟨RX1, "solvesWith", "(LBalanceRoom$Room;I)Z"⟩
abbrev cX1_solvesWithout : ByteArray := prog_3_method_4_code
def yX1_solvesWithout : MethodName := ⟨RX1, "solvesWithout", "(LBalanceRoom$Room;I)Z"⟩
abbrev cX1_gather : ByteArray := prog_3_method_5_code
def yX1_gather : MethodName := ⟨RX1, "gather", "(LBalanceRoom$Room;Z)V"⟩
abbrev cX1_put : ByteArray := prog_3_method_6_code
def yX1_put : MethodName := ⟨RX1, "put", "(LBalanceRoom$Room;II)V"⟩
abbrev cX1_sweepAll : ByteArray := prog_3_method_7_code
def yX1_sweepAll : MethodName := ⟨RX1, "sweepAll", "(Z)Z"⟩
abbrev cX1_sweep : ByteArray := prog_3_method_8_code
def yX1_sweep : MethodName := ⟨RX1, "sweep", "(II)V"⟩
abbrev cX1_sweepRow : ByteArray := prog_3_method_9_code
def yX1_sweepRow : MethodName := ⟨RX1, "sweepRow", "(IIJ)V"⟩
abbrev cX1_valueAbove : ByteArray := prog_3_method_10_code
def yX1_valueAbove : MethodName := ⟨RX1, "valueAbove", "(I)J"⟩
abbrev cX1_spreadAbove : ByteArray := prog_3_method_11_code
def yX1_spreadAbove : MethodName := ⟨RX1, "spreadAbove", "(I)J"⟩
abbrev cX1_totalAbove : ByteArray := prog_3_method_12_code
def yX1_totalAbove : MethodName := ⟨RX1, "totalAbove", "()J"⟩
abbrev cX1_restAbove : ByteArray := prog_3_method_13_code
def yX1_restAbove : MethodName := ⟨RX1, "restAbove", "(LBalanceRoom$Room;I)J"⟩
abbrev cX1_squaresAbove : ByteArray := prog_3_method_14_code
def yX1_squaresAbove : MethodName := ⟨RX1, "squaresAbove", "()J"⟩
abbrev cX1_mostDoubtful : ByteArray := prog_3_method_15_code
def yX1_mostDoubtful : MethodName := ⟨RX1, "mostDoubtful", "(LBalanceRoom$Room;Z)I"⟩
abbrev cX1_thoseAlone : ByteArray := prog_3_method_16_code
def yX1_thoseAlone : MethodName := ⟨RX1, "thoseAlone", "(LBalanceRoom$Room;Z)I"⟩
def RX2 : String := "BalanceRoom$Ranks"
def TX2 : u_T := fun k => match k with
  | 0 => ("BalanceRoom$Ranks", "basis", "[[J", true)
  | 1 => ("BalanceRoom$Ranks", "leads", "[I", true)
  | _ => ("BalanceRoom$Ranks", "ofSet", "[I", true)
def tyX2 : Nat → FieldType := fun k => match k with
  | 0 => .array (.array .long)
  | 1 => .array .int
  | _ => .array .int
abbrev wsX20 : List Cond := u_ws RX2 TX2 3
theorem nmX2 : ∀ a, a < 3 → ∀ b, b < 3 → a ≠ b → (TX2 a).2.1 ≠ (TX2 b).2.1 := by decide +kernel
theorem tyX2_ok : ∀ k, k < 3 → parseFieldDescriptor (TX2 k).2.2.1 = some (tyX2 k) := by decide +kernel
abbrev cX2_init : ByteArray := prog_4_method_1_code
def yX2_init : MethodName := ⟨RX2, "<init>", "()V"⟩
abbrev cX2_ofAll : ByteArray := prog_4_method_2_code
def yX2_ofAll : MethodName := ⟨RX2, "ofAll", "(LBalanceRoom$Room;Z)I"⟩
abbrev cX2_ofEach : ByteArray := prog_4_method_3_code
def yX2_ofEach : MethodName := ⟨RX2, "ofEach", "(LBalanceRoom$Room;Z)V"⟩
abbrev cX2_extended : ByteArray := prog_4_method_4_code
def yX2_extended : MethodName := ⟨RX2, "extended", "(ILBalanceRoom$Room;IZ)I"⟩
abbrev cX2_reduce : ByteArray := prog_4_method_5_code
def yX2_reduce : MethodName := ⟨RX2, "reduce", "([J[JII)V"⟩
def RX3 : String := "BalanceRoom$Room"
def TX3 : u_T := fun k => match k with
  | 0 => ("BalanceRoom$Room", "weights", "I", false)
  | 1 => ("BalanceRoom$Room", "masterValue", "I", false)
  | 2 => ("BalanceRoom$Room", "weighings", "I", false)
  | 3 => ("BalanceRoom$Room", "codes", "[I", true)
  | _ => ("BalanceRoom$Room", "readings", "[I", true)
def tyX3 : Nat → FieldType := fun k => match k with
  | 0 => .int
  | 1 => .int
  | 2 => .int
  | 3 => .array .int
  | _ => .array .int
abbrev wsX30 : List Cond := u_ws RX3 TX3 5
theorem nmX3 : ∀ a, a < 5 → ∀ b, b < 5 → a ≠ b → (TX3 a).2.1 ≠ (TX3 b).2.1 := by decide +kernel
theorem tyX3_ok : ∀ k, k < 5 → parseFieldDescriptor (TX3 k).2.2.1 = some (tyX3 k) := by decide +kernel
abbrev cX3_init : ByteArray := prog_5_method_1_code
def yX3_init : MethodName := ⟨RX3, "<init>", "()V"⟩
abbrev cX3_copy : ByteArray := prog_5_method_2_code
def yX3_copy : MethodName := ⟨RX3, "copy", "(LBalanceRoom$Room;)V"⟩
abbrev cX3_takeFrom : ByteArray := prog_5_method_3_code
def yX3_takeFrom : MethodName := ⟨RX3, "takeFrom", "(LBalanceRoom$Text;)V"⟩
abbrev cX3_has : ByteArray := prog_5_method_4_code
def yX3_has : MethodName := ⟨RX3, "has", "(I)Z"⟩
abbrev cX3_unknowns : ByteArray := prog_5_method_5_code
def yX3_unknowns : MethodName := ⟨RX3, "unknowns", "(Z)I"⟩
abbrev cX3_hasUnknown : ByteArray := prog_5_method_6_code
def yX3_hasUnknown : MethodName := ⟨RX3, "hasUnknown", "(IZ)Z"⟩
abbrev cX3_append : ByteArray := prog_5_method_7_code
def yX3_append : MethodName := ⟨RX3, "append", "(II)V"⟩
abbrev cX3_remove : ByteArray := prog_5_method_8_code
def yX3_remove : MethodName := ⟨RX3, "remove", "(I)V"⟩
abbrev cX3_exchange : ByteArray := prog_5_method_9_code
def yX3_exchange : MethodName := ⟨RX3, "exchange", "(II)V"⟩
abbrev cX3_layOut : ByteArray := prog_5_method_10_code
def yX3_layOut : MethodName := ⟨RX3, "layOut", "(IZ[J)V"⟩
abbrev cX3_signOf : ByteArray := prog_5_method_11_code
def yX3_signOf : MethodName := ⟨RX3, "signOf", "(I)I"⟩
def RX4 : String := "BalanceRoom$Text"
def TX4 : u_T := fun k => match k with
  | 0 => ("BalanceRoom$Text", "letters", "[I", true)
  | _ => ("BalanceRoom$Text", "length", "I", false)
def tyX4 : Nat → FieldType := fun k => match k with
  | 0 => .array .int
  | _ => .int
abbrev wsX40 : List Cond := u_ws RX4 TX4 2
theorem nmX4 : ∀ a, a < 2 → ∀ b, b < 2 → a ≠ b → (TX4 a).2.1 ≠ (TX4 b).2.1 := by decide +kernel
theorem tyX4_ok : ∀ k, k < 2 → parseFieldDescriptor (TX4 k).2.2.1 = some (tyX4 k) := by decide +kernel
abbrev cX4_init : ByteArray := prog_6_method_1_code
def yX4_init : MethodName := ⟨RX4, "<init>", "()V"⟩
abbrev cX4_faultPlace : ByteArray := prog_6_method_2_code
def yX4_faultPlace : MethodName := ⟨RX4, "faultPlace", "()I"⟩
abbrev cX4_fits : ByteArray := prog_6_method_3_code
def yX4_fits : MethodName := ⟨RX4, "fits", "(I)Z"⟩
abbrev cX4_isFigure : ByteArray := prog_6_method_4_code
def yX4_isFigure : MethodName := ⟨RX4, "isFigure", "(I)Z"⟩
abbrev cX4_isSign : ByteArray := prog_6_method_5_code
def yX4_isSign : MethodName := ⟨RX4, "isSign", "(I)Z"⟩
abbrev cX4_weightsTold : ByteArray := prog_6_method_6_code
def yX4_weightsTold : MethodName := ⟨RX4, "weightsTold", "()I"⟩
abbrev cX4_lettersEach : ByteArray := prog_6_method_7_code
def yX4_lettersEach : MethodName := ⟨RX4, "lettersEach", "()I"⟩
abbrev cX4_weighingsTold : ByteArray := prog_6_method_8_code
def yX4_weighingsTold : MethodName := ⟨RX4, "weighingsTold", "()I"⟩
abbrev cX4_masterTold : ByteArray := prog_6_method_9_code
def yX4_masterTold : MethodName := ⟨RX4, "masterTold", "()I"⟩
abbrev cX4_codeTold : ByteArray := prog_6_method_10_code
def yX4_codeTold : MethodName := ⟨RX4, "codeTold", "(I)I"⟩
abbrev cX4_readingTold : ByteArray := prog_6_method_11_code
def yX4_readingTold : MethodName := ⟨RX4, "readingTold", "(I)I"⟩
abbrev cX4_startOf : ByteArray := prog_6_method_12_code
def yX4_startOf : MethodName := ⟨RX4, "startOf", "(I)I"⟩
abbrev cX4_figureAt : ByteArray := prog_6_method_13_code
def yX4_figureAt : MethodName := ⟨RX4, "figureAt", "(I)I"⟩
def RX5 : String := "BalanceRoom"
def TX5 : u_T := fun k => match k with
  | 0 => ("BalanceRoom", "text", "LBalanceRoom$Text;", true)
  | 1 => ("BalanceRoom", "here", "LBalanceRoom$Room;", true)
  | 2 => ("BalanceRoom", "trial", "LBalanceRoom$Room;", true)
  | 3 => ("BalanceRoom", "acts", "LBalanceRoom$Acts;", true)
  | 4 => ("BalanceRoom", "slots", "[LBalanceRoom$Room;", true)
  | 5 => ("BalanceRoom", "filled", "[Z", true)
  | 6 => ("BalanceRoom", "fit", "LBalanceRoom$Fit;", true)
  | 7 => ("BalanceRoom", "ranks", "LBalanceRoom$Ranks;", true)
  | _ => ("BalanceRoom", "seedNow", "J", false)
def tyX5 : Nat → FieldType := fun k => match k with
  | 0 => .object "BalanceRoom$Text"
  | 1 => .object "BalanceRoom$Room"
  | 2 => .object "BalanceRoom$Room"
  | 3 => .object "BalanceRoom$Acts"
  | 4 => .array (.object "BalanceRoom$Room")
  | 5 => .array .boolean
  | 6 => .object "BalanceRoom$Fit"
  | 7 => .object "BalanceRoom$Ranks"
  | _ => .long
abbrev wsX50 : List Cond := u_ws RX5 TX5 9
theorem nmX5 : ∀ a, a < 9 → ∀ b, b < 9 → a ≠ b → (TX5 a).2.1 ≠ (TX5 b).2.1 := by decide +kernel
theorem tyX5_ok : ∀ k, k < 9 → parseFieldDescriptor (TX5 k).2.2.1 = some (tyX5 k) := by decide +kernel
abbrev cX5_init : ByteArray := prog_1_method_1_code
def yX5_init : MethodName := ⟨RX5, "<init>", "()V"⟩
abbrev cX5_write : ByteArray := prog_1_method_2_code
def yX5_write : MethodName := ⟨RX5, "write", "(I)I"⟩
abbrev cX5_wipe : ByteArray := prog_1_method_3_code
def yX5_wipe : MethodName := ⟨RX5, "wipe", "()I"⟩
abbrev cX5_fault : ByteArray := prog_1_method_4_code
def yX5_fault : MethodName := ⟨RX5, "fault", "()I"⟩
abbrev cX5_room : ByteArray := prog_1_method_5_code
def yX5_room : MethodName := ⟨RX5, "room", "()I"⟩
abbrev cX5_code : ByteArray := prog_1_method_6_code
def yX5_code : MethodName := ⟨RX5, "code", "(I)I"⟩
abbrev cX5_reading : ByteArray := prog_1_method_7_code
def yX5_reading : MethodName := ⟨RX5, "reading", "(I)I"⟩
abbrev cX5_weigh : ByteArray := prog_1_method_8_code
def yX5_weigh : MethodName := ⟨RX5, "weigh", "(II)I"⟩
abbrev cX5_take : ByteArray := prog_1_method_9_code
def yX5_take : MethodName := ⟨RX5, "take", "(I)I"⟩
abbrev cX5_swap : ByteArray := prog_1_method_10_code
def yX5_swap : MethodName := ⟨RX5, "swap", "(II)I"⟩
abbrev cX5_read : ByteArray := prog_1_method_11_code
def yX5_read : MethodName := ⟨RX5, "read", "(II)I"⟩
abbrev cX5_master : ByteArray := prog_1_method_12_code
def yX5_master : MethodName := ⟨RX5, "master", "(I)I"⟩
abbrev cX5_undo : ByteArray := prog_1_method_13_code
def yX5_undo : MethodName := ⟨RX5, "undo", "()I"⟩
abbrev cX5_rank : ByteArray := prog_1_method_14_code
def yX5_rank : MethodName := ⟨RX5, "rank", "(Z)I"⟩
abbrev cX5_value : ByteArray := prog_1_method_15_code
def yX5_value : MethodName := ⟨RX5, "value", "(IZZ)J"⟩
abbrev cX5_spread : ByteArray := prog_1_method_16_code
def yX5_spread : MethodName := ⟨RX5, "spread", "(IZZ)J"⟩
abbrev cX5_total : ByteArray := prog_1_method_17_code
def yX5_total : MethodName := ⟨RX5, "total", "(ZZ)J"⟩
abbrev cX5_rest : ByteArray := prog_1_method_18_code
def yX5_rest : MethodName := ⟨RX5, "rest", "(IZZ)J"⟩
abbrev cX5_squares : ByteArray := prog_1_method_19_code
def yX5_squares : MethodName := ⟨RX5, "squares", "(ZZ)J"⟩
abbrev cX5_next : ByteArray := prog_1_method_20_code
def yX5_next : MethodName := ⟨RX5, "next", "(Z)I"⟩
abbrev cX5_better : ByteArray := prog_1_method_21_code
def yX5_better : MethodName := ⟨RX5, "better", "()I"⟩
abbrev cX5_doubtful : ByteArray := prog_1_method_22_code
def yX5_doubtful : MethodName := ⟨RX5, "doubtful", "(Z)I"⟩
abbrev cX5_wrong : ByteArray := prog_1_method_23_code
def yX5_wrong : MethodName := ⟨RX5, "wrong", "(Z)I"⟩
abbrev cX5_judge : ByteArray := prog_1_method_24_code
def yX5_judge : MethodName := ⟨RX5, "judge", "(IJ)I"⟩
abbrev cX5_share : ByteArray := prog_1_method_25_code
def yX5_share : MethodName := ⟨RX5, "share", "(IZZ)I"⟩
abbrev cX5_lost : ByteArray := prog_1_method_26_code
def yX5_lost : MethodName := ⟨RX5, "lost", "(IZZ)I"⟩
abbrev cX5_seed : ByteArray := prog_1_method_27_code
def yX5_seed : MethodName := ⟨RX5, "seed", "(J)J"⟩
abbrev cX5_drawn : ByteArray := prog_1_method_28_code
def yX5_drawn : MethodName := ⟨RX5, "drawn", "(I)I"⟩
abbrev cX5_keep : ByteArray := prog_1_method_29_code
def yX5_keep : MethodName := ⟨RX5, "keep", "(I)I"⟩
abbrev cX5_again : ByteArray := prog_1_method_30_code
def yX5_again : MethodName := ⟨RX5, "again", "(I)I"⟩
abbrev cX5_count : ByteArray := prog_1_method_31_code
def yX5_count : MethodName := ⟨RX5, "count", "(I)I"⟩
abbrev cX5_holds : ByteArray := prog_1_method_32_code
def yX5_holds : MethodName := ⟨RX5, "holds", "(I)Z"⟩
abbrev cX5_exchanged : ByteArray := prog_1_method_33_code
def yX5_exchanged : MethodName := ⟨RX5, "exchanged", "(II)Z"⟩
abbrev cX5_removed : ByteArray := prog_1_method_34_code
def yX5_removed : MethodName := ⟨RX5, "removed", "(I)Z"⟩
abbrev cX5_masterSet : ByteArray := prog_1_method_35_code
def yX5_masterSet : MethodName := ⟨RX5, "masterSet", "(I)Z"⟩
abbrev cX5_drawReadings : ByteArray := prog_1_method_36_code
def yX5_drawReadings : MethodName := ⟨RX5, "drawReadings", "(I)V"⟩
abbrev cX5_isReading : ByteArray := prog_1_method_37_code
def yX5_isReading : MethodName := ⟨RX5, "isReading", "(I)Z"⟩
abbrev cX5_isCode : ByteArray := prog_1_method_38_code
def yX5_isCode : MethodName := ⟨RX5, "isCode", "(II)Z"⟩
abbrev cX5_numbered : ByteArray := prog_1_method_39_code
def yX5_numbered : MethodName := ⟨RX5, "numbered", "(II)I"⟩
abbrev cX5_power : ByteArray := prog_1_method_40_code
def yX5_power : MethodName := ⟨RX5, "power", "(II)I"⟩
abbrev cX5_isLess : ByteArray := prog_1_method_41_code
def yX5_isLess : MethodName := ⟨RX5, "isLess", "(JJJJ)Z"⟩
abbrev cX5_told : ByteArray := prog_1_method_42_code
def yX5_told : MethodName := ⟨RX5, "told", "(JJZ)J"⟩
abbrev cX5_commonDivisor : ByteArray := prog_1_method_43_code
def yX5_commonDivisor : MethodName := ⟨RX5, "commonDivisor", "(JJ)J"⟩
def RX6 : String := "BalanceRoomModel"
def TX6 : u_T := fun k => match k with
  | 0 => ("BalanceRoomModel", "thrown", "I", false)
  | 1 => ("BalanceRoomModel", "text", "[I", true)
  | 2 => ("BalanceRoomModel", "textSize", "I", false)
  | 3 => ("BalanceRoomModel", "place", "I", false)
  | 4 => ("BalanceRoomModel", "weights", "I", false)
  | 5 => ("BalanceRoomModel", "readWeights", "I", false)
  | 6 => ("BalanceRoomModel", "readPage", "[I", true)
  | 7 => ("BalanceRoomModel", "page", "[I", true)
  | 8 => ("BalanceRoomModel", "trial", "[I", true)
  | 9 => ("BalanceRoomModel", "other", "[I", true)
  | 10 => ("BalanceRoomModel", "book", "[I", true)
  | 11 => ("BalanceRoomModel", "doings", "I", false)
  | 12 => ("BalanceRoomModel", "kept", "[I", true)
  | 13 => ("BalanceRoomModel", "isKept", "[Z", true)
  | 14 => ("BalanceRoomModel", "seed", "J", false)
  | 15 => ("BalanceRoomModel", "wide", "I", false)
  | 16 => ("BalanceRoomModel", "gram", "[J", true)
  | 17 => ("BalanceRoomModel", "right", "[J", true)
  | 18 => ("BalanceRoomModel", "squaresOfAll", "J", false)
  | 19 => ("BalanceRoomModel", "work", "[J", true)
  | 20 => ("BalanceRoomModel", "chosen", "[I", true)
  | 21 => ("BalanceRoomModel", "column", "[I", true)
  | 22 => ("BalanceRoomModel", "up", "J", false)
  | _ => ("BalanceRoomModel", "low", "J", false)
def tyX6 : Nat → FieldType := fun k => match k with
  | 0 => .int
  | 1 => .array .int
  | 2 => .int
  | 3 => .int
  | 4 => .int
  | 5 => .int
  | 6 => .array .int
  | 7 => .array .int
  | 8 => .array .int
  | 9 => .array .int
  | 10 => .array .int
  | 11 => .int
  | 12 => .array .int
  | 13 => .array .boolean
  | 14 => .long
  | 15 => .int
  | 16 => .array .long
  | 17 => .array .long
  | 18 => .long
  | 19 => .array .long
  | 20 => .array .int
  | 21 => .array .int
  | 22 => .long
  | _ => .long
abbrev wsX60 : List Cond := u_ws RX6 TX6 24
theorem nmX6 : ∀ a, a < 24 → ∀ b, b < 24 → a ≠ b → (TX6 a).2.1 ≠ (TX6 b).2.1 := by decide +kernel
theorem tyX6_ok : ∀ k, k < 24 → parseFieldDescriptor (TX6 k).2.2.1 = some (tyX6 k) := by decide +kernel
abbrev cX6_init : ByteArray := prog_8_method_2_code
def yX6_init : MethodName := ⟨RX6, "<init>", "()V"⟩
abbrev cX6_in : ByteArray := prog_8_method_3_code
def yX6_in : MethodName := ⟨RX6, "in", "(JJJ)Z"⟩
abbrev cX6_has : ByteArray := prog_8_method_4_code
def yX6_has : MethodName := ⟨RX6, "has", "(II)Z"⟩
abbrev cX6_ones : ByteArray := prog_8_method_5_code
def yX6_ones : MethodName := ⟨RX6, "ones", "(I)I"⟩
abbrev cX6_power : ByteArray := prog_8_method_6_code
def yX6_power : MethodName := ⟨RX6, "power", "(II)I"⟩
abbrev cX6_copy : ByteArray := prog_8_method_7_code
def yX6_copy : MethodName := ⟨RX6, "copy", "([I[I)V"⟩
abbrev cX6_noWeighing : ByteArray := prog_8_method_8_code
def yX6_noWeighing : MethodName := ⟨RX6, "noWeighing", "(I)Z"⟩
abbrev cX6_allOf : ByteArray := prog_8_method_9_code
def yX6_allOf : MethodName := ⟨RX6, "allOf", "([I)I"⟩
abbrev cX6_write : ByteArray := prog_8_method_10_code
def yX6_write : MethodName := ⟨RX6, "write", "(I)I"⟩
abbrev cX6_wipe : ByteArray := prog_8_method_11_code
def yX6_wipe : MethodName := ⟨RX6, "wipe", "()I"⟩
abbrev cX6_figure : ByteArray := prog_8_method_12_code
def yX6_figure : MethodName := ⟨RX6, "figure", "(II)I"⟩
abbrev cX6_sign : ByteArray := prog_8_method_13_code
def yX6_sign : MethodName := ⟨RX6, "sign", "(Z)I"⟩
abbrev cX6_readHead : ByteArray := prog_8_method_14_code
def yX6_readHead : MethodName := ⟨RX6, "readHead", "()Z"⟩
abbrev cX6_readWeighing : ByteArray := prog_8_method_15_code
def yX6_readWeighing : MethodName := ⟨RX6, "readWeighing", "()Z"⟩
abbrev cX6_readRoom : ByteArray := prog_8_method_16_code
def yX6_readRoom : MethodName := ⟨RX6, "readRoom", "()I"⟩
abbrev cX6_fault : ByteArray := prog_8_method_17_code
def yX6_fault : MethodName := ⟨RX6, "fault", "()I"⟩
abbrev cX6_room : ByteArray := prog_8_method_18_code
def yX6_room : MethodName := ⟨RX6, "room", "()I"⟩
abbrev cX6_code : ByteArray := prog_8_method_19_code
def yX6_code : MethodName := ⟨RX6, "code", "(I)I"⟩
abbrev cX6_reading : ByteArray := prog_8_method_20_code
def yX6_reading : MethodName := ⟨RX6, "reading", "(I)I"⟩
abbrev cX6_note : ByteArray := prog_8_method_21_code
def yX6_note : MethodName := ⟨RX6, "note", "()V"⟩
abbrev cX6_isCode : ByteArray := prog_8_method_22_code
def yX6_isCode : MethodName := ⟨RX6, "isCode", "(I)Z"⟩
abbrev cX6_weigh : ByteArray := prog_8_method_23_code
def yX6_weigh : MethodName := ⟨RX6, "weigh", "(II)I"⟩
abbrev cX6_takeOn : ByteArray := prog_8_method_24_code
def yX6_takeOn : MethodName := ⟨RX6, "takeOn", "([II)V"⟩
abbrev cX6_swapOn : ByteArray := prog_8_method_25_code
def yX6_swapOn : MethodName := ⟨RX6, "swapOn", "([III)V"⟩
abbrev cX6_take : ByteArray := prog_8_method_26_code
def yX6_take : MethodName := ⟨RX6, "take", "(I)I"⟩
abbrev cX6_swap : ByteArray := prog_8_method_27_code
def yX6_swap : MethodName := ⟨RX6, "swap", "(II)I"⟩
abbrev cX6_read : ByteArray := prog_8_method_28_code
def yX6_read : MethodName := ⟨RX6, "read", "(II)I"⟩
abbrev cX6_master : ByteArray := prog_8_method_29_code
def yX6_master : MethodName := ⟨RX6, "master", "(I)I"⟩
abbrev cX6_undo : ByteArray := prog_8_method_30_code
def yX6_undo : MethodName := ⟨RX6, "undo", "()I"⟩
abbrev cX6_panOf : ByteArray := prog_8_method_31_code
def yX6_panOf : MethodName := ⟨RX6, "panOf", "(II)I"⟩
abbrev cX6_layColumns : ByteArray := prog_8_method_32_code
def yX6_layColumns : MethodName := ⟨RX6, "layColumns", "([IIZ)V"⟩
abbrev cX6_pureOf : ByteArray := prog_8_method_33_code
def yX6_pureOf : MethodName := ⟨RX6, "pureOf", "([III)I"⟩
abbrev cX6_layGram : ByteArray := prog_8_method_34_code
def yX6_layGram : MethodName := ⟨RX6, "layGram", "([IIZ)V"⟩
abbrev cX6_determinant : ByteArray := prog_8_method_35_code
def yX6_determinant : MethodName := ⟨RX6, "determinant", "(I)J"⟩
abbrev cX6_minor : ByteArray := prog_8_method_36_code
def yX6_minor : MethodName := ⟨RX6, "minor", "(II)J"⟩
abbrev cX6_columns : ByteArray := prog_8_method_37_code
def yX6_columns : MethodName := ⟨RX6, "columns", "()I"⟩
abbrev cX6_rankOf : ByteArray := prog_8_method_38_code
def yX6_rankOf : MethodName := ⟨RX6, "rankOf", "([IIZ)I"⟩
abbrev cX6_isLaid : ByteArray := prog_8_method_39_code
def yX6_isLaid : MethodName := ⟨RX6, "isLaid", "([IIZ)Z"⟩
abbrev cX6_divisor : ByteArray := prog_8_method_40_code
def yX6_divisor : MethodName := ⟨RX6, "divisor", "(JJ)J"⟩
abbrev cX6_layFraction : ByteArray := prog_8_method_41_code
def yX6_layFraction : MethodName := ⟨RX6, "layFraction", "(JJ)V"⟩
abbrev cX6_told : ByteArray := prog_8_method_42_code
def yX6_told : MethodName := ⟨RX6, "told", "(Z)J"⟩
abbrev cX6_layTotal : ByteArray := prog_8_method_43_code
def yX6_layTotal : MethodName := ⟨RX6, "layTotal", "()V"⟩
abbrev cX6_laySquares : ByteArray := prog_8_method_44_code
def yX6_laySquares : MethodName := ⟨RX6, "laySquares", "()V"⟩
abbrev cX6_rank : ByteArray := prog_8_method_45_code
def yX6_rank : MethodName := ⟨RX6, "rank", "(Z)I"⟩
abbrev cX6_noColumn : ByteArray := prog_8_method_46_code
def yX6_noColumn : MethodName := ⟨RX6, "noColumn", "(IZ)Z"⟩
abbrev cX6_value : ByteArray := prog_8_method_47_code
def yX6_value : MethodName := ⟨RX6, "value", "(IZZ)J"⟩
abbrev cX6_spread : ByteArray := prog_8_method_48_code
def yX6_spread : MethodName := ⟨RX6, "spread", "(IZZ)J"⟩
abbrev cX6_total : ByteArray := prog_8_method_49_code
def yX6_total : MethodName := ⟨RX6, "total", "(ZZ)J"⟩
abbrev cX6_rest : ByteArray := prog_8_method_50_code
def yX6_rest : MethodName := ⟨RX6, "rest", "(IZZ)J"⟩
abbrev cX6_squares : ByteArray := prog_8_method_51_code
def yX6_squares : MethodName := ⟨RX6, "squares", "(ZZ)J"⟩
abbrev cX6_next : ByteArray := prog_8_method_52_code
def yX6_next : MethodName := ⟨RX6, "next", "(Z)I"⟩
abbrev cX6_better : ByteArray := prog_8_method_53_code
def yX6_better : MethodName := ⟨RX6, "better", "()I"⟩
abbrev cX6_doubtfulOf : ByteArray := prog_8_method_54_code
def yX6_doubtfulOf : MethodName := ⟨RX6, "doubtfulOf", "([IZ)I"⟩
abbrev cX6_doubtful : ByteArray := prog_8_method_55_code
def yX6_doubtful : MethodName := ⟨RX6, "doubtful", "(Z)I"⟩
abbrev cX6_wrong : ByteArray := prog_8_method_56_code
def yX6_wrong : MethodName := ⟨RX6, "wrong", "(Z)I"⟩
abbrev cX6_isWorth : ByteArray := prog_8_method_57_code
def yX6_isWorth : MethodName := ⟨RX6, "isWorth", "(II)Z"⟩
abbrev cX6_does : ByteArray := prog_8_method_58_code
def yX6_does : MethodName := ⟨RX6, "does", "(III)Z"⟩
abbrev cX6_longPower : ByteArray := prog_8_method_59_code
def yX6_longPower : MethodName := ⟨RX6, "longPower", "(JI)J"⟩
abbrev cX6_judge : ByteArray := prog_8_method_60_code
def yX6_judge : MethodName := ⟨RX6, "judge", "(IJ)I"⟩
abbrev cX6_factorial : ByteArray := prog_8_method_61_code
def yX6_factorial : MethodName := ⟨RX6, "factorial", "(I)I"⟩
abbrev cX6_share : ByteArray := prog_8_method_62_code
def yX6_share : MethodName := ⟨RX6, "share", "(IZZ)I"⟩
abbrev cX6_lost : ByteArray := prog_8_method_63_code
def yX6_lost : MethodName := ⟨RX6, "lost", "(IZZ)I"⟩
abbrev cX6_seed : ByteArray := prog_8_method_64_code
def yX6_seed : MethodName := ⟨RX6, "seed", "(J)J"⟩
abbrev cX6_drawn : ByteArray := prog_8_method_65_code
def yX6_drawn : MethodName := ⟨RX6, "drawn", "(I)I"⟩
abbrev cX6_keep : ByteArray := prog_8_method_66_code
def yX6_keep : MethodName := ⟨RX6, "keep", "(I)I"⟩
abbrev cX6_again : ByteArray := prog_8_method_67_code
def yX6_again : MethodName := ⟨RX6, "again", "(I)I"⟩
abbrev cX6_count : ByteArray := prog_8_method_68_code
def yX6_count : MethodName := ⟨RX6, "count", "(I)I"⟩
def RJ6 : String := "java/lang/Integer"
def TJ6 : u_T := fun k => match k with
  | _ => ("", "", "", false)
def tyJ6 : Nat → FieldType := fun k => match k with
  | _ => .int
abbrev wsJ60 : List Cond := u_ws RJ6 TJ6 0
theorem nmJ6 : ∀ a, a < 0 → ∀ b, b < 0 → a ≠ b → (TJ6 a).2.1 ≠ (TJ6 b).2.1 := by decide +kernel
theorem tyJ6_ok : ∀ k, k < 0 → parseFieldDescriptor (TJ6 k).2.2.1 = some (tyJ6 k) := by decide +kernel
abbrev cJ6_bitCount_0f7a4 : ByteArray := prog_9_method_49_code
def yJ6_bitCount_0f7a4 : MethodName := ⟨RJ6, "bitCount", "(I)I"⟩
def RJ9 : String := "java/lang/Math"
def TJ9 : u_T := fun k => match k with
  | _ => ("", "", "", false)
def tyJ9 : Nat → FieldType := fun k => match k with
  | _ => .int
abbrev wsJ90 : List Cond := u_ws RJ9 TJ9 0
theorem nmJ9 : ∀ a, a < 0 → ∀ b, b < 0 → a ≠ b → (TJ9 a).2.1 ≠ (TJ9 b).2.1 := by decide +kernel
theorem tyJ9_ok : ∀ k, k < 0 → parseFieldDescriptor (TJ9 k).2.2.1 = some (tyJ9 k) := by decide +kernel
abbrev cJ9_abs_067f4 : ByteArray := prog_10_method_61_code
def yJ9_abs_067f4 : MethodName := ⟨RJ9, "abs", "(J)J"⟩
abbrev cJ9_min_7cf53 : ByteArray := prog_10_method_69_code
def yJ9_min_7cf53 : MethodName := ⟨RJ9, "min", "(II)I"⟩
def RJ10 : String := "java/lang/System"
def TJ10 : u_T := fun k => match k with
  | _ => ("", "", "", false)
def tyJ10 : Nat → FieldType := fun k => match k with
  | _ => .int
abbrev wsJ100 : List Cond := u_ws RJ10 TJ10 0
theorem nmJ10 : ∀ a, a < 0 → ∀ b, b < 0 → a ≠ b → (TJ10 a).2.1 ≠ (TJ10 b).2.1 := by decide +kernel
theorem tyJ10_ok : ∀ k, k < 0 → parseFieldDescriptor (TJ10 k).2.2.1 = some (tyJ10 k) := by decide +kernel
def RL : String := "BalanceRoomLaw"
abbrev cL_law : ByteArray := code
def yL_law : MethodName := ⟨RL, "law", "([I)Z"⟩
abbrev vwCl : List vw_C := [(RX0, TX0, 3), (RX1, TX1, 7), (RX2, TX2, 3), (RX3, TX3, 5), (RX4, TX4, 2), (RX5, TX5, 9), (RX6, TX6, 24)]
