-- ===== PART A: goes FIRST, ahead of the names: the tables' words, and 'selects' of the private methods out of them =====
/-- a private method of a class that the tables say can be made, by its rows of tables_1 -/
def lw_okq (q : MethodName × Nat) : Prop := (q.1.cls ≠ "java/lang/invoke/MethodHandle" ∧ q.1.cls ≠ "java/lang/invoke/VarHandle") ∧ Cond.instantiable q.1.cls q.2 ∈ tables_1 ∧ Cond.privateMethod q.1 ∈ tables_1 ∧ Cond.instanceMethod q.1 ∈ tables_1
theorem lw_p0 : lw_okq (⟨"KilnPermits", "record", "()V"⟩, 7) := ⟨⟨by decide +kernel, by decide +kernel⟩, List.mem_of_getElem? (i := 13) (by decide +kernel), List.mem_of_getElem? (i := 279) (by decide +kernel), List.mem_of_getElem? (i := 280) (by decide +kernel)⟩
theorem lw_p1 : lw_okq (⟨"KilnPermits", "pushSpare", "()V"⟩, 7) := ⟨⟨by decide +kernel, by decide +kernel⟩, List.mem_of_getElem? (i := 13) (by decide +kernel), List.mem_of_getElem? (i := 307) (by decide +kernel), List.mem_of_getElem? (i := 308) (by decide +kernel)⟩
theorem lw_p2 : lw_okq (⟨"KilnPermits", "oneComes", "(ZIII)I"⟩, 7) := ⟨⟨by decide +kernel, by decide +kernel⟩, List.mem_of_getElem? (i := 13) (by decide +kernel), List.mem_of_getElem? (i := 345) (by decide +kernel), List.mem_of_getElem? (i := 346) (by decide +kernel)⟩
theorem lw_p3 : lw_okq (⟨"KilnPermits", "swapWithSpare", "()V"⟩, 7) := ⟨⟨by decide +kernel, by decide +kernel⟩, List.mem_of_getElem? (i := 13) (by decide +kernel), List.mem_of_getElem? (i := 443) (by decide +kernel), List.mem_of_getElem? (i := 444) (by decide +kernel)⟩
theorem lw_p4 : lw_okq (⟨"KilnPermitsModel", "record", "()V"⟩, 11) := ⟨⟨by decide +kernel, by decide +kernel⟩, List.mem_of_getElem? (i := 597) (by decide +kernel), List.mem_of_getElem? (i := 648) (by decide +kernel), List.mem_of_getElem? (i := 649) (by decide +kernel)⟩
theorem lw_p5 : lw_okq (⟨"KilnPermitsModel", "ordered", "(IIII)I"⟩, 11) := ⟨⟨by decide +kernel, by decide +kernel⟩, List.mem_of_getElem? (i := 597) (by decide +kernel), List.mem_of_getElem? (i := 668) (by decide +kernel), List.mem_of_getElem? (i := 669) (by decide +kernel)⟩
theorem lw_p6 : lw_okq (⟨"KilnPermitsModel", "wrong", "(IIII)I"⟩, 11) := ⟨⟨by decide +kernel, by decide +kernel⟩, List.mem_of_getElem? (i := 597) (by decide +kernel), List.mem_of_getElem? (i := 672) (by decide +kernel), List.mem_of_getElem? (i := 673) (by decide +kernel)⟩
theorem lw_p7 : lw_okq (⟨"KilnPermitsModel", "permits", "(I)I"⟩, 11) := ⟨⟨by decide +kernel, by decide +kernel⟩, List.mem_of_getElem? (i := 597) (by decide +kernel), List.mem_of_getElem? (i := 676) (by decide +kernel), List.mem_of_getElem? (i := 677) (by decide +kernel)⟩
theorem lw_p8 : lw_okq (⟨"KilnPermitsModel", "comes", "(IIII)I"⟩, 11) := ⟨⟨by decide +kernel, by decide +kernel⟩, List.mem_of_getElem? (i := 597) (by decide +kernel), List.mem_of_getElem? (i := 680) (by decide +kernel), List.mem_of_getElem? (i := 681) (by decide +kernel)⟩
theorem lw_p9 : lw_okq (⟨"KilnPermitsModel", "moves", "(III)V"⟩, 11) := ⟨⟨by decide +kernel, by decide +kernel⟩, List.mem_of_getElem? (i := 597) (by decide +kernel), List.mem_of_getElem? (i := 687) (by decide +kernel), List.mem_of_getElem? (i := 688) (by decide +kernel)⟩
theorem lw_p10 : lw_okq (⟨"KilnPermitsModel", "best", "(I)I"⟩, 11) := ⟨⟨by decide +kernel, by decide +kernel⟩, List.mem_of_getElem? (i := 597) (by decide +kernel), List.mem_of_getElem? (i := 691) (by decide +kernel), List.mem_of_getElem? (i := 692) (by decide +kernel)⟩
theorem lw_p11 : lw_okq (⟨"KilnPermitsModel", "isAhead", "(II)Z"⟩, 11) := ⟨⟨by decide +kernel, by decide +kernel⟩, List.mem_of_getElem? (i := 597) (by decide +kernel), List.mem_of_getElem? (i := 695) (by decide +kernel), List.mem_of_getElem? (i := 696) (by decide +kernel)⟩
theorem lw_p12 : lw_okq (⟨"KilnPermitsModel", "trades", "(IIIII)V"⟩, 11) := ⟨⟨by decide +kernel, by decide +kernel⟩, List.mem_of_getElem? (i := 597) (by decide +kernel), List.mem_of_getElem? (i := 699) (by decide +kernel), List.mem_of_getElem? (i := 700) (by decide +kernel)⟩
theorem lw_p13 : lw_okq (⟨"KilnPermitsModel", "leaves", "(I)V"⟩, 11) := ⟨⟨by decide +kernel, by decide +kernel⟩, List.mem_of_getElem? (i := 597) (by decide +kernel), List.mem_of_getElem? (i := 703) (by decide +kernel), List.mem_of_getElem? (i := 704) (by decide +kernel)⟩
theorem lw_p14 : lw_okq (⟨"KilnPermitsModel", "reads", "()Z"⟩, 11) := ⟨⟨by decide +kernel, by decide +kernel⟩, List.mem_of_getElem? (i := 597) (by decide +kernel), List.mem_of_getElem? (i := 715) (by decide +kernel), List.mem_of_getElem? (i := 716) (by decide +kernel)⟩
theorem lw_p15 : lw_okq (⟨"KilnPermitsModel", "readsOrder", "()Z"⟩, 11) := ⟨⟨by decide +kernel, by decide +kernel⟩, List.mem_of_getElem? (i := 597) (by decide +kernel), List.mem_of_getElem? (i := 719) (by decide +kernel), List.mem_of_getElem? (i := 720) (by decide +kernel)⟩
def lw_privs_1 : List (MethodName × Nat) := [(⟨"KilnPermits", "record", "()V"⟩, 7), (⟨"KilnPermits", "pushSpare", "()V"⟩, 7), (⟨"KilnPermits", "oneComes", "(ZIII)I"⟩, 7), (⟨"KilnPermits", "swapWithSpare", "()V"⟩, 7), (⟨"KilnPermitsModel", "record", "()V"⟩, 11), (⟨"KilnPermitsModel", "ordered", "(IIII)I"⟩, 11), (⟨"KilnPermitsModel", "wrong", "(IIII)I"⟩, 11), (⟨"KilnPermitsModel", "permits", "(I)I"⟩, 11), (⟨"KilnPermitsModel", "comes", "(IIII)I"⟩, 11), (⟨"KilnPermitsModel", "moves", "(III)V"⟩, 11), (⟨"KilnPermitsModel", "best", "(I)I"⟩, 11), (⟨"KilnPermitsModel", "isAhead", "(II)Z"⟩, 11), (⟨"KilnPermitsModel", "trades", "(IIIII)V"⟩, 11), (⟨"KilnPermitsModel", "leaves", "(I)V"⟩, 11), (⟨"KilnPermitsModel", "reads", "()Z"⟩, 11), (⟨"KilnPermitsModel", "readsOrder", "()Z"⟩, 11)]
theorem lw_r1 : ∀ q ∈ lw_privs_1, lw_okq q := List.forall_mem_cons.mpr ⟨lw_p0, List.forall_mem_cons.mpr ⟨lw_p1, List.forall_mem_cons.mpr ⟨lw_p2, List.forall_mem_cons.mpr ⟨lw_p3, List.forall_mem_cons.mpr ⟨lw_p4, List.forall_mem_cons.mpr ⟨lw_p5, List.forall_mem_cons.mpr ⟨lw_p6, List.forall_mem_cons.mpr ⟨lw_p7, List.forall_mem_cons.mpr ⟨lw_p8, List.forall_mem_cons.mpr ⟨lw_p9, List.forall_mem_cons.mpr ⟨lw_p10, List.forall_mem_cons.mpr ⟨lw_p11, List.forall_mem_cons.mpr ⟨lw_p12, List.forall_mem_cons.mpr ⟨lw_p13, List.forall_mem_cons.mpr ⟨lw_p14, List.forall_mem_cons.mpr ⟨lw_p15, fun _ h => absurd h List.not_mem_nil⟩⟩⟩⟩⟩⟩⟩⟩⟩⟩⟩⟩⟩⟩⟩⟩
theorem lw_p16 : lw_okq (⟨"KilnPermitsModel", "sign", "()I"⟩, 11) := ⟨⟨by decide +kernel, by decide +kernel⟩, List.mem_of_getElem? (i := 597) (by decide +kernel), List.mem_of_getElem? (i := 723) (by decide +kernel), List.mem_of_getElem? (i := 724) (by decide +kernel)⟩
theorem lw_p17 : lw_okq (⟨"KilnPermitsModel", "takes", "(I)Z"⟩, 11) := ⟨⟨by decide +kernel, by decide +kernel⟩, List.mem_of_getElem? (i := 597) (by decide +kernel), List.mem_of_getElem? (i := 727) (by decide +kernel), List.mem_of_getElem? (i := 728) (by decide +kernel)⟩
theorem lw_p18 : lw_okq (⟨"KilnPermitsModel", "number", "(I)I"⟩, 11) := ⟨⟨by decide +kernel, by decide +kernel⟩, List.mem_of_getElem? (i := 597) (by decide +kernel), List.mem_of_getElem? (i := 731) (by decide +kernel), List.mem_of_getElem? (i := 732) (by decide +kernel)⟩
theorem lw_p19 : lw_okq (⟨"KilnPermitsModel", "recordBefore", "()V"⟩, 11) := ⟨⟨by decide +kernel, by decide +kernel⟩, List.mem_of_getElem? (i := 597) (by decide +kernel), List.mem_of_getElem? (i := 735) (by decide +kernel), List.mem_of_getElem? (i := 736) (by decide +kernel)⟩
theorem lw_p20 : lw_okq (⟨"KilnPermitsModel", "find", "(I)I"⟩, 11) := ⟨⟨by decide +kernel, by decide +kernel⟩, List.mem_of_getElem? (i := 597) (by decide +kernel), List.mem_of_getElem? (i := 743) (by decide +kernel), List.mem_of_getElem? (i := 744) (by decide +kernel)⟩
theorem lw_p21 : lw_okq (⟨"KilnPermitsModel", "covers", "(I)I"⟩, 11) := ⟨⟨by decide +kernel, by decide +kernel⟩, List.mem_of_getElem? (i := 597) (by decide +kernel), List.mem_of_getElem? (i := 763) (by decide +kernel), List.mem_of_getElem? (i := 764) (by decide +kernel)⟩
theorem lw_p22 : lw_okq (⟨"KilnPermitsModel", "needs", "(I)I"⟩, 11) := ⟨⟨by decide +kernel, by decide +kernel⟩, List.mem_of_getElem? (i := 597) (by decide +kernel), List.mem_of_getElem? (i := 767) (by decide +kernel), List.mem_of_getElem? (i := 768) (by decide +kernel)⟩
theorem lw_p23 : lw_okq (⟨"KilnPermitsModel", "oldest", "(I)I"⟩, 11) := ⟨⟨by decide +kernel, by decide +kernel⟩, List.mem_of_getElem? (i := 597) (by decide +kernel), List.mem_of_getElem? (i := 795) (by decide +kernel), List.mem_of_getElem? (i := 796) (by decide +kernel)⟩
theorem lw_p24 : lw_okq (⟨"KilnPermitsModel", "held", "(II)I"⟩, 11) := ⟨⟨by decide +kernel, by decide +kernel⟩, List.mem_of_getElem? (i := 597) (by decide +kernel), List.mem_of_getElem? (i := 799) (by decide +kernel), List.mem_of_getElem? (i := 800) (by decide +kernel)⟩
theorem lw_p25 : lw_okq (⟨"KilnPermitsModel", "allPermits", "()I"⟩, 11) := ⟨⟨by decide +kernel, by decide +kernel⟩, List.mem_of_getElem? (i := 597) (by decide +kernel), List.mem_of_getElem? (i := 819) (by decide +kernel), List.mem_of_getElem? (i := 820) (by decide +kernel)⟩
theorem lw_p26 : lw_okq (⟨"KilnPermitsModel", "allCoins", "()I"⟩, 11) := ⟨⟨by decide +kernel, by decide +kernel⟩, List.mem_of_getElem? (i := 597) (by decide +kernel), List.mem_of_getElem? (i := 823) (by decide +kernel), List.mem_of_getElem? (i := 824) (by decide +kernel)⟩
def lw_privs_2 : List (MethodName × Nat) := [(⟨"KilnPermitsModel", "sign", "()I"⟩, 11), (⟨"KilnPermitsModel", "takes", "(I)Z"⟩, 11), (⟨"KilnPermitsModel", "number", "(I)I"⟩, 11), (⟨"KilnPermitsModel", "recordBefore", "()V"⟩, 11), (⟨"KilnPermitsModel", "find", "(I)I"⟩, 11), (⟨"KilnPermitsModel", "covers", "(I)I"⟩, 11), (⟨"KilnPermitsModel", "needs", "(I)I"⟩, 11), (⟨"KilnPermitsModel", "oldest", "(I)I"⟩, 11), (⟨"KilnPermitsModel", "held", "(II)I"⟩, 11), (⟨"KilnPermitsModel", "allPermits", "()I"⟩, 11), (⟨"KilnPermitsModel", "allCoins", "()I"⟩, 11)]
theorem lw_r2 : ∀ q ∈ lw_privs_2, lw_okq q := List.forall_mem_cons.mpr ⟨lw_p16, List.forall_mem_cons.mpr ⟨lw_p17, List.forall_mem_cons.mpr ⟨lw_p18, List.forall_mem_cons.mpr ⟨lw_p19, List.forall_mem_cons.mpr ⟨lw_p20, List.forall_mem_cons.mpr ⟨lw_p21, List.forall_mem_cons.mpr ⟨lw_p22, List.forall_mem_cons.mpr ⟨lw_p23, List.forall_mem_cons.mpr ⟨lw_p24, List.forall_mem_cons.mpr ⟨lw_p25, List.forall_mem_cons.mpr ⟨lw_p26, fun _ h => absurd h List.not_mem_nil⟩⟩⟩⟩⟩⟩⟩⟩⟩⟩⟩
def lw_privs : List (MethodName × Nat) := lw_privs_1 ++ (lw_privs_2)
def lw_tbl : List Cond := k2_sels lw_privs ++ tables_1
theorem lw_privs_ok : ∀ q ∈ lw_privs, lw_okq q := by
  show ∀ q ∈ lw_privs_1 ++ (lw_privs_2), lw_okq q
  exact List.forall_mem_append.mpr ⟨lw_r1, lw_r2⟩
def RX0 : String := "KilnPermits$Kiln"
def TX0 : u_T := fun k => match k with
  | 0 => ("KilnPermits$Kiln", "coins", "I", false)
  | 1 => ("KilnPermits$Kiln", "smoke", "I", false)
  | 2 => ("KilnPermits$Kiln", "told", "I", false)
  | 3 => ("KilnPermits$Kiln", "borrowed", "I", false)
  | 4 => ("KilnPermits$Kiln", "fines", "I", false)
  | 5 => ("KilnPermits$Kiln", "debt", "I", false)
  | 6 => ("KilnPermits$Kiln", "owed", "I", false)
  | _ => ("KilnPermits$Kiln", "permits", "LKilnPermits$Permits;", true)
def tyX0 : Nat → FieldType := fun k => match k with
  | 0 => .int
  | 1 => .int
  | 2 => .int
  | 3 => .int
  | 4 => .int
  | 5 => .int
  | 6 => .int
  | _ => .object "KilnPermits$Permits"
theorem nmX0 : ∀ a, a < 8 → ∀ b, b < 8 → a ≠ b → (TX0 a).2.1 ≠ (TX0 b).2.1 := by decide +kernel
theorem tyX0_ok : ∀ k, k < 8 → parseFieldDescriptor (TX0 k).2.2.1 = some (tyX0 k) := by decide +kernel
abbrev cX0_init : ByteArray := prog_2_method_1_code
def yX0_init : MethodName := ⟨RX0, "<init>", "()V"⟩
abbrev cX0_copyFrom : ByteArray := prog_2_method_2_code
def yX0_copyFrom : MethodName := ⟨RX0, "copyFrom", "(LKilnPermits$Kiln;)V"⟩
abbrev cX0_due : ByteArray := prog_2_method_3_code
def yX0_due : MethodName := ⟨RX0, "due", "()I"⟩
abbrev cX0_lack : ByteArray := prog_2_method_4_code
def yX0_lack : MethodName := ⟨RX0, "lack", "()I"⟩
abbrev cX0_startYear : ByteArray := prog_2_method_5_code
def yX0_startYear : MethodName := ⟨RX0, "startYear", "(I)V"⟩
def RX1 : String := "KilnPermits$Line"
def TX1 : u_T := fun k => match k with
  | 0 => ("KilnPermits$Line", "isBid", "Z", false)
  | 1 => ("KilnPermits$Line", "kiln", "I", false)
  | 2 => ("KilnPermits$Line", "permits", "I", false)
  | _ => ("KilnPermits$Line", "price", "I", false)
def tyX1 : Nat → FieldType := fun k => match k with
  | 0 => .boolean
  | 1 => .int
  | 2 => .int
  | _ => .int
theorem nmX1 : ∀ a, a < 4 → ∀ b, b < 4 → a ≠ b → (TX1 a).2.1 ≠ (TX1 b).2.1 := by decide +kernel
theorem tyX1_ok : ∀ k, k < 4 → parseFieldDescriptor (TX1 k).2.2.1 = some (tyX1 k) := by decide +kernel
abbrev cX1_init : ByteArray := prog_3_method_1_code
def yX1_init : MethodName := ⟨RX1, "<init>", "()V"⟩
def RX2 : String := "KilnPermits$Order"
def TX2 : u_T := fun k => match k with
  | 0 => ("KilnPermits$Order", "number", "I", false)
  | 1 => ("KilnPermits$Order", "isBid", "Z", false)
  | 2 => ("KilnPermits$Order", "kiln", "I", false)
  | 3 => ("KilnPermits$Order", "left", "I", false)
  | 4 => ("KilnPermits$Order", "price", "I", false)
  | _ => ("KilnPermits$Order", "offered", "LKilnPermits$Permits;", true)
def tyX2 : Nat → FieldType := fun k => match k with
  | 0 => .int
  | 1 => .boolean
  | 2 => .int
  | 3 => .int
  | 4 => .int
  | _ => .object "KilnPermits$Permits"
theorem nmX2 : ∀ a, a < 6 → ∀ b, b < 6 → a ≠ b → (TX2 a).2.1 ≠ (TX2 b).2.1 := by decide +kernel
theorem tyX2_ok : ∀ k, k < 6 → parseFieldDescriptor (TX2 k).2.2.1 = some (tyX2 k) := by decide +kernel
abbrev cX2_init : ByteArray := prog_4_method_1_code
def yX2_init : MethodName := ⟨RX2, "<init>", "()V"⟩
abbrev cX2_start : ByteArray := prog_4_method_2_code
def yX2_start : MethodName := ⟨RX2, "start", "(IZIII)V"⟩
abbrev cX2_copyFrom : ByteArray := prog_4_method_3_code
def yX2_copyFrom : MethodName := ⟨RX2, "copyFrom", "(LKilnPermits$Order;)V"⟩
abbrev cX2_standsAs : ByteArray := prog_4_method_4_code
def yX2_standsAs : MethodName := ⟨RX2, "standsAs", "(Z)Z"⟩
abbrev cX2_isMetAt : ByteArray := prog_4_method_5_code
def yX2_isMetAt : MethodName := ⟨RX2, "isMetAt", "(I)Z"⟩
abbrev cX2_isBetterThan : ByteArray := prog_4_method_6_code
def yX2_isBetterThan : MethodName := ⟨RX2, "isBetterThan", "(LKilnPermits$Order;)Z"⟩
abbrev cX2_heldBack : ByteArray := prog_4_method_7_code
def yX2_heldBack : MethodName := ⟨RX2, "heldBack", "()I"⟩
def RX3 : String := "KilnPermits$OrderText"
def TX3 : u_T := fun k => match k with
  | 0 => ("KilnPermits$OrderText", "signs", "[C", true)
  | 1 => ("KilnPermits$OrderText", "length", "I", false)
  | 2 => ("KilnPermits$OrderText", "lines", "[LKilnPermits$Line;", true)
  | 3 => ("KilnPermits$OrderText", "lineCount", "I", false)
  | _ => ("KilnPermits$OrderText", "place", "I", false)
def tyX3 : Nat → FieldType := fun k => match k with
  | 0 => .array .char
  | 1 => .int
  | 2 => .array (.object "KilnPermits$Line")
  | 3 => .int
  | _ => .int
theorem nmX3 : ∀ a, a < 5 → ∀ b, b < 5 → a ≠ b → (TX3 a).2.1 ≠ (TX3 b).2.1 := by decide +kernel
theorem tyX3_ok : ∀ k, k < 5 → parseFieldDescriptor (TX3 k).2.2.1 = some (tyX3 k) := by decide +kernel
abbrev cX3_init : ByteArray := prog_5_method_1_code
def yX3_init : MethodName := ⟨RX3, "<init>", "()V"⟩
abbrev cX3_append : ByteArray := prog_5_method_2_code
def yX3_append : MethodName := ⟨RX3, "append", "(C)Z"⟩
abbrev cX3_read : ByteArray := prog_5_method_3_code
def yX3_read : MethodName := ⟨RX3, "read", "()I"⟩
abbrev cX3_readLine : ByteArray := prog_5_method_4_code
def yX3_readLine : MethodName := ⟨RX3, "readLine", "(LKilnPermits$Line;)Z"⟩
abbrev cX3_isNext : ByteArray := prog_5_method_5_code
def yX3_isNext : MethodName := ⟨RX3, "isNext", "(C)Z"⟩
abbrev cX3_skip : ByteArray := prog_5_method_6_code
def yX3_skip : MethodName := ⟨RX3, "skip", "(C)Z"⟩
abbrev cX3_digit : ByteArray := prog_5_method_7_code
def yX3_digit : MethodName := ⟨RX3, "digit", "()I"⟩
abbrev cX3_readNumber : ByteArray := prog_5_method_8_code
def yX3_readNumber : MethodName := ⟨RX3, "readNumber", "(I)I"⟩
def RX4 : String := "KilnPermits$Permits"
def TX4 : u_T := fun k => match k with
  | 0 => ("KilnPermits$Permits", "byYear", "[I", false)
  | 1 => ("KilnPermits$Permits", "years", "I", false)
  | _ => ("KilnPermits$Permits", "total", "I", false)
def tyX4 : Nat → FieldType := fun k => match k with
  | 0 => .array .int
  | 1 => .int
  | _ => .int
theorem nmX4 : ∀ a, a < 3 → ∀ b, b < 3 → a ≠ b → (TX4 a).2.1 ≠ (TX4 b).2.1 := by decide +kernel
theorem tyX4_ok : ∀ k, k < 3 → parseFieldDescriptor (TX4 k).2.2.1 = some (tyX4 k) := by decide +kernel
abbrev cX4_init : ByteArray := prog_6_method_1_code
def yX4_init : MethodName := ⟨RX4, "<init>", "()V"⟩
abbrev cX4_copyFrom : ByteArray := prog_6_method_2_code
def yX4_copyFrom : MethodName := ⟨RX4, "copyFrom", "(LKilnPermits$Permits;)V"⟩
abbrev cX4_issuedFor : ByteArray := prog_6_method_3_code
def yX4_issuedFor : MethodName := ⟨RX4, "issuedFor", "(I)I"⟩
abbrev cX4_oldestYear : ByteArray := prog_6_method_4_code
def yX4_oldestYear : MethodName := ⟨RX4, "oldestYear", "()I"⟩
abbrev cX4_add : ByteArray := prog_6_method_5_code
def yX4_add : MethodName := ⟨RX4, "add", "(II)V"⟩
abbrev cX4_giveOldest : ByteArray := prog_6_method_6_code
def yX4_giveOldest : MethodName := ⟨RX4, "giveOldest", "(ILKilnPermits$Permits;)V"⟩
abbrev cX4_dropOldest : ByteArray := prog_6_method_7_code
def yX4_dropOldest : MethodName := ⟨RX4, "dropOldest", "(I)V"⟩
abbrev cX4_leaveOut : ByteArray := prog_6_method_8_code
def yX4_leaveOut : MethodName := ⟨RX4, "leaveOut", "(I)V"⟩
def RX5 : String := "KilnPermits$Town"
def TX5 : u_T := fun k => match k with
  | 0 => ("KilnPermits$Town", "year", "I", false)
  | 1 => ("KilnPermits$Town", "issued", "I", false)
  | 2 => ("KilnPermits$Town", "given", "I", false)
  | 3 => ("KilnPermits$Town", "borrowedGiven", "I", false)
  | 4 => ("KilnPermits$Town", "reserve", "I", false)
  | 5 => ("KilnPermits$Town", "reserveSold", "I", false)
  | 6 => ("KilnPermits$Town", "orderCount", "I", false)
  | 7 => ("KilnPermits$Town", "traded", "I", false)
  | 8 => ("KilnPermits$Town", "latestPrice", "I", false)
  | 9 => ("KilnPermits$Town", "coinsTaken", "I", false)
  | 10 => ("KilnPermits$Town", "coinsForReserve", "I", false)
  | 11 => ("KilnPermits$Town", "settings", "[I", true)
  | 12 => ("KilnPermits$Town", "kilns", "[LKilnPermits$Kiln;", true)
  | _ => ("KilnPermits$Town", "places", "[LKilnPermits$Order;", true)
def tyX5 : Nat → FieldType := fun k => match k with
  | 0 => .int
  | 1 => .int
  | 2 => .int
  | 3 => .int
  | 4 => .int
  | 5 => .int
  | 6 => .int
  | 7 => .int
  | 8 => .int
  | 9 => .int
  | 10 => .int
  | 11 => .array .int
  | 12 => .array (.object "KilnPermits$Kiln")
  | _ => .array (.object "KilnPermits$Order")
theorem nmX5 : ∀ a, a < 14 → ∀ b, b < 14 → a ≠ b → (TX5 a).2.1 ≠ (TX5 b).2.1 := by decide +kernel
theorem tyX5_ok : ∀ k, k < 14 → parseFieldDescriptor (TX5 k).2.2.1 = some (tyX5 k) := by decide +kernel
abbrev cX5_init : ByteArray := prog_7_method_1_code
def yX5_init : MethodName := ⟨RX5, "<init>", "()V"⟩
abbrev cX5_copyFrom : ByteArray := prog_7_method_2_code
def yX5_copyFrom : MethodName := ⟨RX5, "copyFrom", "(LKilnPermits$Town;)V"⟩
abbrev cX5_kilnAt : ByteArray := prog_7_method_3_code
def yX5_kilnAt : MethodName := ⟨RX5, "kilnAt", "(I)LKilnPermits$Kiln;"⟩
abbrev cX5_issueTo : ByteArray := prog_7_method_4_code
def yX5_issueTo : MethodName := ⟨RX5, "issueTo", "(LKilnPermits$Kiln;I)I"⟩
abbrev cX5_sellReserve : ByteArray := prog_7_method_5_code
def yX5_sellReserve : MethodName := ⟨RX5, "sellReserve", "(LKilnPermits$Kiln;I)V"⟩
abbrev cX5_closeYear : ByteArray := prog_7_method_6_code
def yX5_closeYear : MethodName := ⟨RX5, "closeYear", "()I"⟩
abbrev cX5_settle : ByteArray := prog_7_method_7_code
def yX5_settle : MethodName := ⟨RX5, "settle", "(LKilnPermits$Kiln;)I"⟩
abbrev cX5_withInterest : ByteArray := prog_7_method_8_code
def yX5_withInterest : MethodName := ⟨RX5, "withInterest", "(I)I"⟩
abbrev cX5_errorOf : ByteArray := prog_7_method_9_code
def yX5_errorOf : MethodName := ⟨RX5, "errorOf", "(ZIII)I"⟩
abbrev cX5_comes : ByteArray := prog_7_method_10_code
def yX5_comes : MethodName := ⟨RX5, "comes", "(ZIII)I"⟩
abbrev cX5_meetOthers : ByteArray := prog_7_method_11_code
def yX5_meetOthers : MethodName := ⟨RX5, "meetOthers", "(LKilnPermits$Order;)V"⟩
abbrev cX5_trade : ByteArray := prog_7_method_12_code
def yX5_trade : MethodName := ⟨RX5, "trade", "(LKilnPermits$Order;LKilnPermits$Order;I)V"⟩
abbrev cX5_giveBack : ByteArray := prog_7_method_13_code
def yX5_giveBack : MethodName := ⟨RX5, "giveBack", "(LKilnPermits$Order;)V"⟩
abbrev cX5_freePlace : ByteArray := prog_7_method_14_code
def yX5_freePlace : MethodName := ⟨RX5, "freePlace", "()LKilnPermits$Order;"⟩
abbrev cX5_standingWith : ByteArray := prog_7_method_15_code
def yX5_standingWith : MethodName := ⟨RX5, "standingWith", "(I)LKilnPermits$Order;"⟩
abbrev cX5_bestOf : ByteArray := prog_7_method_16_code
def yX5_bestOf : MethodName := ⟨RX5, "bestOf", "(Z)LKilnPermits$Order;"⟩
abbrev cX5_ranked : ByteArray := prog_7_method_17_code
def yX5_ranked : MethodName := ⟨RX5, "ranked", "(ZI)LKilnPermits$Order;"⟩
abbrev cX5_betterThan : ByteArray := prog_7_method_18_code
def yX5_betterThan : MethodName := ⟨RX5, "betterThan", "(LKilnPermits$Order;)I"⟩
abbrev cX5_standingCount : ByteArray := prog_7_method_19_code
def yX5_standingCount : MethodName := ⟨RX5, "standingCount", "()I"⟩
abbrev cX5_offeredBy : ByteArray := prog_7_method_20_code
def yX5_offeredBy : MethodName := ⟨RX5, "offeredBy", "(I)I"⟩
abbrev cX5_heldBackBy : ByteArray := prog_7_method_21_code
def yX5_heldBackBy : MethodName := ⟨RX5, "heldBackBy", "(I)I"⟩
abbrev cX5_allPermits : ByteArray := prog_7_method_22_code
def yX5_allPermits : MethodName := ⟨RX5, "allPermits", "()I"⟩
abbrev cX5_allCoins : ByteArray := prog_7_method_23_code
def yX5_allCoins : MethodName := ⟨RX5, "allCoins", "()I"⟩
def RX6 : String := "KilnPermits"
def TX6 : u_T := fun k => match k with
  | 0 => ("KilnPermits", "now", "LKilnPermits$Town;", false)
  | 1 => ("KilnPermits", "spare", "LKilnPermits$Town;", false)
  | 2 => ("KilnPermits", "snapshot", "LKilnPermits$Town;", true)
  | 3 => ("KilnPermits", "isKept", "Z", false)
  | 4 => ("KilnPermits", "history", "[LKilnPermits$Town;", true)
  | 5 => ("KilnPermits", "states", "I", false)
  | _ => ("KilnPermits", "text", "LKilnPermits$OrderText;", true)
def tyX6 : Nat → FieldType := fun k => match k with
  | 0 => .object "KilnPermits$Town"
  | 1 => .object "KilnPermits$Town"
  | 2 => .object "KilnPermits$Town"
  | 3 => .boolean
  | 4 => .array (.object "KilnPermits$Town")
  | 5 => .int
  | _ => .object "KilnPermits$OrderText"
theorem nmX6 : ∀ a, a < 7 → ∀ b, b < 7 → a ≠ b → (TX6 a).2.1 ≠ (TX6 b).2.1 := by decide +kernel
theorem tyX6_ok : ∀ k, k < 7 → parseFieldDescriptor (TX6 k).2.2.1 = some (tyX6 k) := by decide +kernel
abbrev cX6_init : ByteArray := prog_1_method_1_code
def yX6_init : MethodName := ⟨RX6, "<init>", "()V"⟩
abbrev cX6_issue : ByteArray := prog_1_method_2_code
def yX6_issue : MethodName := ⟨RX6, "issue", "(II)I"⟩
abbrev cX6_fire : ByteArray := prog_1_method_3_code
def yX6_fire : MethodName := ⟨RX6, "fire", "(III)I"⟩
abbrev cX6_audit : ByteArray := prog_1_method_4_code
def yX6_audit : MethodName := ⟨RX6, "audit", "(I)I"⟩
abbrev cX6_bid : ByteArray := prog_1_method_5_code
def yX6_bid : MethodName := ⟨RX6, "bid", "(III)I"⟩
abbrev cX6_ask : ByteArray := prog_1_method_6_code
def yX6_ask : MethodName := ⟨RX6, "ask", "(III)I"⟩
abbrev cX6_orderAll : ByteArray := prog_1_method_7_code
def yX6_orderAll : MethodName := ⟨RX6, "orderAll", "()I"⟩
abbrev cX6_takeBack : ByteArray := prog_1_method_8_code
def yX6_takeBack : MethodName := ⟨RX6, "takeBack", "(I)I"⟩
abbrev cX6_buyReserve : ByteArray := prog_1_method_9_code
def yX6_buyReserve : MethodName := ⟨RX6, "buyReserve", "(II)I"⟩
abbrev cX6_borrow : ByteArray := prog_1_method_10_code
def yX6_borrow : MethodName := ⟨RX6, "borrow", "(II)I"⟩
abbrev cX6_set : ByteArray := prog_1_method_11_code
def yX6_set : MethodName := ⟨RX6, "set", "(II)I"⟩
abbrev cX6_endYear : ByteArray := prog_1_method_12_code
def yX6_endYear : MethodName := ⟨RX6, "endYear", "()I"⟩
abbrev cX6_type : ByteArray := prog_1_method_13_code
def yX6_type : MethodName := ⟨RX6, "type", "(C)I"⟩
abbrev cX6_clearText : ByteArray := prog_1_method_14_code
def yX6_clearText : MethodName := ⟨RX6, "clearText", "()I"⟩
abbrev cX6_undo : ByteArray := prog_1_method_15_code
def yX6_undo : MethodName := ⟨RX6, "undo", "()I"⟩
abbrev cX6_keep : ByteArray := prog_1_method_16_code
def yX6_keep : MethodName := ⟨RX6, "keep", "()I"⟩
abbrev cX6_restore : ByteArray := prog_1_method_17_code
def yX6_restore : MethodName := ⟨RX6, "restore", "()I"⟩
abbrev cX6_kiln : ByteArray := prog_1_method_18_code
def yX6_kiln : MethodName := ⟨RX6, "kiln", "(II)I"⟩
abbrev cX6_ofYear : ByteArray := prog_1_method_19_code
def yX6_ofYear : MethodName := ⟨RX6, "ofYear", "(II)I"⟩
abbrev cX6_order : ByteArray := prog_1_method_20_code
def yX6_order : MethodName := ⟨RX6, "order", "(ZII)I"⟩
abbrev cX6_depth : ByteArray := prog_1_method_21_code
def yX6_depth : MethodName := ⟨RX6, "depth", "(ZI)I"⟩
abbrev cX6_count : ByteArray := prog_1_method_22_code
def yX6_count : MethodName := ⟨RX6, "count", "(I)I"⟩
abbrev cX6_isWithin : ByteArray := prog_1_method_23_code
def yX6_isWithin : MethodName := ⟨RX6, "isWithin", "(III)Z"⟩
abbrev cX6_isSetting : ByteArray := prog_1_method_24_code
def yX6_isSetting : MethodName := ⟨RX6, "isSetting", "(II)Z"⟩
abbrev cX6_oneComes : ByteArray := prog_1_method_25_code
def yX6_oneComes : MethodName := ⟨RX6, "oneComes", "(ZIII)I"⟩
abbrev cX6_record : ByteArray := prog_1_method_26_code
def yX6_record : MethodName := ⟨RX6, "record", "()V"⟩
abbrev cX6_pushSpare : ByteArray := prog_1_method_27_code
def yX6_pushSpare : MethodName := ⟨RX6, "pushSpare", "()V"⟩
abbrev cX6_swapWithSpare : ByteArray := prog_1_method_28_code
def yX6_swapWithSpare : MethodName := ⟨RX6, "swapWithSpare", "()V"⟩
def RX7 : String := "KilnPermitsModel"
def TX7 : u_T := fun k => match k with
  | 0 => ("KilnPermitsModel", "now", "[I", true)
  | 1 => ("KilnPermitsModel", "slot", "[I", true)
  | 2 => ("KilnPermitsModel", "before", "[I", true)
  | 3 => ("KilnPermitsModel", "history", "[I", true)
  | 4 => ("KilnPermitsModel", "text", "[I", true)
  | 5 => ("KilnPermitsModel", "told", "[I", true)
  | 6 => ("KilnPermitsModel", "kept", "I", false)
  | 7 => ("KilnPermitsModel", "length", "I", false)
  | 8 => ("KilnPermitsModel", "place", "I", false)
  | 9 => ("KilnPermitsModel", "tells", "I", false)
  | _ => ("KilnPermitsModel", "isFilled", "Z", false)
def tyX7 : Nat → FieldType := fun k => match k with
  | 0 => .array .int
  | 1 => .array .int
  | 2 => .array .int
  | 3 => .array .int
  | 4 => .array .int
  | 5 => .array .int
  | 6 => .int
  | 7 => .int
  | 8 => .int
  | 9 => .int
  | _ => .boolean
theorem nmX7 : ∀ a, a < 11 → ∀ b, b < 11 → a ≠ b → (TX7 a).2.1 ≠ (TX7 b).2.1 := by decide +kernel
theorem tyX7_ok : ∀ k, k < 11 → parseFieldDescriptor (TX7 k).2.2.1 = some (tyX7 k) := by decide +kernel
abbrev cX7_init : ByteArray := prog_9_method_1_code
def yX7_init : MethodName := ⟨RX7, "<init>", "()V"⟩
abbrev cX7_in : ByteArray := prog_9_method_2_code
def yX7_in : MethodName := ⟨RX7, "in", "(III)Z"⟩
abbrev cX7_isKiln : ByteArray := prog_9_method_3_code
def yX7_isKiln : MethodName := ⟨RX7, "isKiln", "(I)Z"⟩
abbrev cX7_record : ByteArray := prog_9_method_4_code
def yX7_record : MethodName := ⟨RX7, "record", "()V"⟩
abbrev cX7_recordBefore : ByteArray := prog_9_method_5_code
def yX7_recordBefore : MethodName := ⟨RX7, "recordBefore", "()V"⟩
abbrev cX7_permits : ByteArray := prog_9_method_6_code
def yX7_permits : MethodName := ⟨RX7, "permits", "(I)I"⟩
abbrev cX7_moves : ByteArray := prog_9_method_7_code
def yX7_moves : MethodName := ⟨RX7, "moves", "(III)V"⟩
abbrev cX7_own : ByteArray := prog_9_method_8_code
def yX7_own : MethodName := ⟨RX7, "own", "(I)I"⟩
abbrev cX7_offer : ByteArray := prog_9_method_9_code
def yX7_offer : MethodName := ⟨RX7, "offer", "(I)I"⟩
abbrev cX7_issue : ByteArray := prog_9_method_10_code
def yX7_issue : MethodName := ⟨RX7, "issue", "(II)I"⟩
abbrev cX7_fire : ByteArray := prog_9_method_11_code
def yX7_fire : MethodName := ⟨RX7, "fire", "(III)I"⟩
abbrev cX7_audit : ByteArray := prog_9_method_12_code
def yX7_audit : MethodName := ⟨RX7, "audit", "(I)I"⟩
abbrev cX7_isAhead : ByteArray := prog_9_method_13_code
def yX7_isAhead : MethodName := ⟨RX7, "isAhead", "(II)Z"⟩
abbrev cX7_best : ByteArray := prog_9_method_14_code
def yX7_best : MethodName := ⟨RX7, "best", "(I)I"⟩
abbrev cX7_leaves : ByteArray := prog_9_method_15_code
def yX7_leaves : MethodName := ⟨RX7, "leaves", "(I)V"⟩
abbrev cX7_trades : ByteArray := prog_9_method_16_code
def yX7_trades : MethodName := ⟨RX7, "trades", "(IIIII)V"⟩
abbrev cX7_wrong : ByteArray := prog_9_method_17_code
def yX7_wrong : MethodName := ⟨RX7, "wrong", "(IIII)I"⟩
abbrev cX7_comes : ByteArray := prog_9_method_18_code
def yX7_comes : MethodName := ⟨RX7, "comes", "(IIII)I"⟩
abbrev cX7_ordered : ByteArray := prog_9_method_19_code
def yX7_ordered : MethodName := ⟨RX7, "ordered", "(IIII)I"⟩
abbrev cX7_bid : ByteArray := prog_9_method_20_code
def yX7_bid : MethodName := ⟨RX7, "bid", "(III)I"⟩
abbrev cX7_ask : ByteArray := prog_9_method_21_code
def yX7_ask : MethodName := ⟨RX7, "ask", "(III)I"⟩
abbrev cX7_sign : ByteArray := prog_9_method_22_code
def yX7_sign : MethodName := ⟨RX7, "sign", "()I"⟩
abbrev cX7_takes : ByteArray := prog_9_method_23_code
def yX7_takes : MethodName := ⟨RX7, "takes", "(I)Z"⟩
abbrev cX7_number : ByteArray := prog_9_method_24_code
def yX7_number : MethodName := ⟨RX7, "number", "(I)I"⟩
abbrev cX7_readsOrder : ByteArray := prog_9_method_25_code
def yX7_readsOrder : MethodName := ⟨RX7, "readsOrder", "()Z"⟩
abbrev cX7_reads : ByteArray := prog_9_method_26_code
def yX7_reads : MethodName := ⟨RX7, "reads", "()Z"⟩
abbrev cX7_orderAll : ByteArray := prog_9_method_27_code
def yX7_orderAll : MethodName := ⟨RX7, "orderAll", "()I"⟩
abbrev cX7_find : ByteArray := prog_9_method_28_code
def yX7_find : MethodName := ⟨RX7, "find", "(I)I"⟩
abbrev cX7_takeBack : ByteArray := prog_9_method_29_code
def yX7_takeBack : MethodName := ⟨RX7, "takeBack", "(I)I"⟩
abbrev cX7_buyReserve : ByteArray := prog_9_method_30_code
def yX7_buyReserve : MethodName := ⟨RX7, "buyReserve", "(II)I"⟩
abbrev cX7_borrow : ByteArray := prog_9_method_31_code
def yX7_borrow : MethodName := ⟨RX7, "borrow", "(II)I"⟩
abbrev cX7_set : ByteArray := prog_9_method_32_code
def yX7_set : MethodName := ⟨RX7, "set", "(II)I"⟩
abbrev cX7_needs : ByteArray := prog_9_method_33_code
def yX7_needs : MethodName := ⟨RX7, "needs", "(I)I"⟩
abbrev cX7_covers : ByteArray := prog_9_method_34_code
def yX7_covers : MethodName := ⟨RX7, "covers", "(I)I"⟩
abbrev cX7_endYear : ByteArray := prog_9_method_35_code
def yX7_endYear : MethodName := ⟨RX7, "endYear", "()I"⟩
abbrev cX7_type : ByteArray := prog_9_method_36_code
def yX7_type : MethodName := ⟨RX7, "type", "(C)I"⟩
abbrev cX7_clearText : ByteArray := prog_9_method_37_code
def yX7_clearText : MethodName := ⟨RX7, "clearText", "()I"⟩
abbrev cX7_undo : ByteArray := prog_9_method_38_code
def yX7_undo : MethodName := ⟨RX7, "undo", "()I"⟩
abbrev cX7_keep : ByteArray := prog_9_method_39_code
def yX7_keep : MethodName := ⟨RX7, "keep", "()I"⟩
abbrev cX7_restore : ByteArray := prog_9_method_40_code
def yX7_restore : MethodName := ⟨RX7, "restore", "()I"⟩
abbrev cX7_oldest : ByteArray := prog_9_method_41_code
def yX7_oldest : MethodName := ⟨RX7, "oldest", "(I)I"⟩
abbrev cX7_held : ByteArray := prog_9_method_42_code
def yX7_held : MethodName := ⟨RX7, "held", "(II)I"⟩
abbrev cX7_kiln : ByteArray := prog_9_method_43_code
def yX7_kiln : MethodName := ⟨RX7, "kiln", "(II)I"⟩
abbrev cX7_ofYear : ByteArray := prog_9_method_44_code
def yX7_ofYear : MethodName := ⟨RX7, "ofYear", "(II)I"⟩
abbrev cX7_order : ByteArray := prog_9_method_45_code
def yX7_order : MethodName := ⟨RX7, "order", "(ZII)I"⟩
abbrev cX7_depth : ByteArray := prog_9_method_46_code
def yX7_depth : MethodName := ⟨RX7, "depth", "(ZI)I"⟩
abbrev cX7_allPermits : ByteArray := prog_9_method_47_code
def yX7_allPermits : MethodName := ⟨RX7, "allPermits", "()I"⟩
abbrev cX7_allCoins : ByteArray := prog_9_method_48_code
def yX7_allCoins : MethodName := ⟨RX7, "allCoins", "()I"⟩
abbrev cX7_count : ByteArray := prog_9_method_49_code
def yX7_count : MethodName := ⟨RX7, "count", "(I)I"⟩
def RJ9 : String := "java/lang/Math"
abbrev cJ9_max_7cf53 : ByteArray := prog_11_method_65_code
def yJ9_max_7cf53 : MethodName := ⟨RJ9, "max", "(II)I"⟩
abbrev cJ9_min_7cf53 : ByteArray := prog_11_method_69_code
def yJ9_min_7cf53 : MethodName := ⟨RJ9, "min", "(II)I"⟩
abbrev cJ9_min_f86c9 : ByteArray := prog_11_method_70_code
def yJ9_min_f86c9 : MethodName := ⟨RJ9, "min", "(JJ)J"⟩
def RJ10 : String := "java/lang/System"
def RJ7 : String := "java/util/Arrays"
abbrev cJ7_copyOf_59c91 : ByteArray := prog_13_method_123_code
def yJ7_copyOf_59c91 : MethodName := ⟨RJ7, "copyOf", "([II)[I"⟩
def RL : String := "KilnPermitsLaw"
abbrev cL_law : ByteArray := code
def yL_law : MethodName := ⟨RL, "law", "([I)Z"⟩
