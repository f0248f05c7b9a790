section
-- ===== PART A: goes FIRST, ahead of the names: the tables' words, and 'selects' of the private methods out of them =====
/-- a private method of a class that the tables say can be made, by its rows of tables_1 -/
def lw_okq (q : MethodName × Nat) : Prop := (q.1.cls ≠ "java/lang/invoke/MethodHandle" ∧ q.1.cls ≠ "java/lang/invoke/VarHandle") ∧ Cond.instantiable q.1.cls q.2 ∈ tables_1 ∧ Cond.privateMethod q.1 ∈ tables_1 ∧ Cond.instanceMethod q.1 ∈ tables_1
theorem lw_p0 : lw_okq (⟨"RuinHouse", "findBook", "(I)LRuinHouse$Book;"⟩, 11) := ⟨⟨by decide +kernel, by decide +kernel⟩, List.mem_of_getElem? (i := 13) (by decide +kernel), List.mem_of_getElem? (i := 210) (by decide +kernel), List.mem_of_getElem? (i := 211) (by decide +kernel)⟩
theorem lw_p1 : lw_okq (⟨"RuinHouse", "findRight", "(I)LRuinHouse$Book;"⟩, 11) := ⟨⟨by decide +kernel, by decide +kernel⟩, List.mem_of_getElem? (i := 13) (by decide +kernel), List.mem_of_getElem? (i := 233) (by decide +kernel), List.mem_of_getElem? (i := 234) (by decide +kernel)⟩
theorem lw_p2 : lw_okq (⟨"RuinHouse", "move", "(II)V"⟩, 11) := ⟨⟨by decide +kernel, by decide +kernel⟩, List.mem_of_getElem? (i := 13) (by decide +kernel), List.mem_of_getElem? (i := 271) (by decide +kernel), List.mem_of_getElem? (i := 272) (by decide +kernel)⟩
theorem lw_p3 : lw_okq (⟨"RuinHouse", "writeMoved", "(LRuinHouse$Book;)V"⟩, 11) := ⟨⟨by decide +kernel, by decide +kernel⟩, List.mem_of_getElem? (i := 13) (by decide +kernel), List.mem_of_getElem? (i := 275) (by decide +kernel), List.mem_of_getElem? (i := 276) (by decide +kernel)⟩
theorem lw_p4 : lw_okq (⟨"RuinHouse", "startNumber", "(J)V"⟩, 11) := ⟨⟨by decide +kernel, by decide +kernel⟩, List.mem_of_getElem? (i := 13) (by decide +kernel), List.mem_of_getElem? (i := 287) (by decide +kernel), List.mem_of_getElem? (i := 288) (by decide +kernel)⟩
theorem lw_p5 : lw_okq (⟨"RuinHouse$Rows", "write", "(IIJ)V"⟩, 4) := ⟨⟨by decide +kernel, by decide +kernel⟩, List.mem_of_getElem? (i := 57) (by decide +kernel), List.mem_of_getElem? (i := 302) (by decide +kernel), List.mem_of_getElem? (i := 303) (by decide +kernel)⟩
theorem lw_p6 : lw_okq (⟨"RuinHouse$Claims", "empty", "(JI)V"⟩, 4) := ⟨⟨by decide +kernel, by decide +kernel⟩, List.mem_of_getElem? (i := 29) (by decide +kernel), List.mem_of_getElem? (i := 314) (by decide +kernel), List.mem_of_getElem? (i := 315) (by decide +kernel)⟩
theorem lw_p7 : lw_okq (⟨"RuinHouse$Claims", "add", "(IJ)V"⟩, 4) := ⟨⟨by decide +kernel, by decide +kernel⟩, List.mem_of_getElem? (i := 29) (by decide +kernel), List.mem_of_getElem? (i := 320) (by decide +kernel), List.mem_of_getElem? (i := 321) (by decide +kernel)⟩
theorem lw_p8 : lw_okq (⟨"RuinHouse$Walk", "liveRows", "()I"⟩, 9) := ⟨⟨by decide +kernel, by decide +kernel⟩, List.mem_of_getElem? (i := 23) (by decide +kernel), List.mem_of_getElem? (i := 330) (by decide +kernel), List.mem_of_getElem? (i := 331) (by decide +kernel)⟩
theorem lw_p9 : lw_okq (⟨"RuinHouse$Rows", "read", "(II)J"⟩, 4) := ⟨⟨by decide +kernel, by decide +kernel⟩, List.mem_of_getElem? (i := 57) (by decide +kernel), List.mem_of_getElem? (i := 344) (by decide +kernel), List.mem_of_getElem? (i := 345) (by decide +kernel)⟩
theorem lw_p10 : lw_okq (⟨"RuinHouse", "noteTick", "(I)V"⟩, 11) := ⟨⟨by decide +kernel, by decide +kernel⟩, List.mem_of_getElem? (i := 13) (by decide +kernel), List.mem_of_getElem? (i := 348) (by decide +kernel), List.mem_of_getElem? (i := 349) (by decide +kernel)⟩
theorem lw_p11 : lw_okq (⟨"RuinHouse$Walk", "nextLimbs", "()I"⟩, 9) := ⟨⟨by decide +kernel, by decide +kernel⟩, List.mem_of_getElem? (i := 23) (by decide +kernel), List.mem_of_getElem? (i := 356) (by decide +kernel), List.mem_of_getElem? (i := 357) (by decide +kernel)⟩
theorem lw_p12 : lw_okq (⟨"RuinHouse$Rows", "gather", "(ILRuinHouse$Rows;IJI)V"⟩, 4) := ⟨⟨by decide +kernel, by decide +kernel⟩, List.mem_of_getElem? (i := 57) (by decide +kernel), List.mem_of_getElem? (i := 368) (by decide +kernel), List.mem_of_getElem? (i := 369) (by decide +kernel)⟩
theorem lw_p13 : lw_okq (⟨"RuinHouse$Forever", "sumUp", "(LRuinHouse$Book;I)V"⟩, 4) := ⟨⟨by decide +kernel, by decide +kernel⟩, List.mem_of_getElem? (i := 140) (by decide +kernel), List.mem_of_getElem? (i := 412) (by decide +kernel), List.mem_of_getElem? (i := 413) (by decide +kernel)⟩
theorem lw_p14 : lw_okq (⟨"RuinHouse$Payout", "goBack", "(II)I"⟩, 5) := ⟨⟨by decide +kernel, by decide +kernel⟩, List.mem_of_getElem? (i := 112) (by decide +kernel), List.mem_of_getElem? (i := 451) (by decide +kernel), List.mem_of_getElem? (i := 452) (by decide +kernel)⟩
theorem lw_p15 : lw_okq (⟨"RuinHouse$Payout", "payOne", "(I)Z"⟩, 5) := ⟨⟨by decide +kernel, by decide +kernel⟩, List.mem_of_getElem? (i := 112) (by decide +kernel), List.mem_of_getElem? (i := 456) (by decide +kernel), List.mem_of_getElem? (i := 457) (by decide +kernel)⟩
def lw_privs_1 : List (MethodName × Nat) := [(⟨"RuinHouse", "findBook", "(I)LRuinHouse$Book;"⟩, 11), (⟨"RuinHouse", "findRight", "(I)LRuinHouse$Book;"⟩, 11), (⟨"RuinHouse", "move", "(II)V"⟩, 11), (⟨"RuinHouse", "writeMoved", "(LRuinHouse$Book;)V"⟩, 11), (⟨"RuinHouse", "startNumber", "(J)V"⟩, 11), (⟨"RuinHouse$Rows", "write", "(IIJ)V"⟩, 4), (⟨"RuinHouse$Claims", "empty", "(JI)V"⟩, 4), (⟨"RuinHouse$Claims", "add", "(IJ)V"⟩, 4), (⟨"RuinHouse$Walk", "liveRows", "()I"⟩, 9), (⟨"RuinHouse$Rows", "read", "(II)J"⟩, 4), (⟨"RuinHouse", "noteTick", "(I)V"⟩, 11), (⟨"RuinHouse$Walk", "nextLimbs", "()I"⟩, 9), (⟨"RuinHouse$Rows", "gather", "(ILRuinHouse$Rows;IJI)V"⟩, 4), (⟨"RuinHouse$Forever", "sumUp", "(LRuinHouse$Book;I)V"⟩, 4), (⟨"RuinHouse$Payout", "goBack", "(II)I"⟩, 5), (⟨"RuinHouse$Payout", "payOne", "(I)Z"⟩, 5)]
theorem lw_r1 : ∀ q ∈ lw_privs_1, lw_okq q := List.forall_mem_cons.mpr ⟨lw_p0, List.forall_mem_cons.mpr ⟨lw_p1, List.forall_mem_cons.mpr ⟨lw_p2, List.forall_mem_cons.mpr ⟨lw_p3, List.forall_mem_cons.mpr ⟨lw_p4, List.forall_mem_cons.mpr ⟨lw_p5, List.forall_mem_cons.mpr ⟨lw_p6, List.forall_mem_cons.mpr ⟨lw_p7, List.forall_mem_cons.mpr ⟨lw_p8, List.forall_mem_cons.mpr ⟨lw_p9, List.forall_mem_cons.mpr ⟨lw_p10, List.forall_mem_cons.mpr ⟨lw_p11, List.forall_mem_cons.mpr ⟨lw_p12, List.forall_mem_cons.mpr ⟨lw_p13, List.forall_mem_cons.mpr ⟨lw_p14, List.forall_mem_cons.mpr ⟨lw_p15, fun _ h => absurd h List.not_mem_nil⟩⟩⟩⟩⟩⟩⟩⟩⟩⟩⟩⟩⟩⟩⟩⟩
theorem lw_p16 : lw_okq (⟨"RuinHouse", "stand", "(III)V"⟩, 11) := ⟨⟨by decide +kernel, by decide +kernel⟩, List.mem_of_getElem? (i := 13) (by decide +kernel), List.mem_of_getElem? (i := 474) (by decide +kernel), List.mem_of_getElem? (i := 475) (by decide +kernel)⟩
theorem lw_p17 : lw_okq (⟨"RuinHouse", "findPremium", "(III)I"⟩, 11) := ⟨⟨by decide +kernel, by decide +kernel⟩, List.mem_of_getElem? (i := 13) (by decide +kernel), List.mem_of_getElem? (i := 500) (by decide +kernel), List.mem_of_getElem? (i := 501) (by decide +kernel)⟩
theorem lw_p18 : lw_okq (⟨"RuinHouse", "isEnough", "(IIII)Z"⟩, 11) := ⟨⟨by decide +kernel, by decide +kernel⟩, List.mem_of_getElem? (i := 13) (by decide +kernel), List.mem_of_getElem? (i := 504) (by decide +kernel), List.mem_of_getElem? (i := 505) (by decide +kernel)⟩
theorem lw_p19 : lw_okq (⟨"RuinHouseModel", "isRight", "(I)Z"⟩, 24) := ⟨⟨by decide +kernel, by decide +kernel⟩, List.mem_of_getElem? (i := 514) (by decide +kernel), List.mem_of_getElem? (i := 614) (by decide +kernel), List.mem_of_getElem? (i := 615) (by decide +kernel)⟩
theorem lw_p20 : lw_okq (⟨"RuinHouseModel", "mean", "(I)I"⟩, 24) := ⟨⟨by decide +kernel, by decide +kernel⟩, List.mem_of_getElem? (i := 514) (by decide +kernel), List.mem_of_getElem? (i := 622) (by decide +kernel), List.mem_of_getElem? (i := 623) (by decide +kernel)⟩
theorem lw_p21 : lw_okq (⟨"RuinHouseModel", "stop", "(II)I"⟩, 24) := ⟨⟨by decide +kernel, by decide +kernel⟩, List.mem_of_getElem? (i := 514) (by decide +kernel), List.mem_of_getElem? (i := 626) (by decide +kernel), List.mem_of_getElem? (i := 627) (by decide +kernel)⟩
theorem lw_p22 : lw_okq (⟨"RuinHouseModel", "becomes", "(I)Z"⟩, 24) := ⟨⟨by decide +kernel, by decide +kernel⟩, List.mem_of_getElem? (i := 514) (by decide +kernel), List.mem_of_getElem? (i := 636) (by decide +kernel), List.mem_of_getElem? (i := 637) (by decide +kernel)⟩
theorem lw_p23 : lw_okq (⟨"RuinHouseModel", "canRuin", "(IIIII)Z"⟩, 24) := ⟨⟨by decide +kernel, by decide +kernel⟩, List.mem_of_getElem? (i := 514) (by decide +kernel), List.mem_of_getElem? (i := 652) (by decide +kernel), List.mem_of_getElem? (i := 653) (by decide +kernel)⟩
theorem lw_p24 : lw_okq (⟨"RuinHouseModel", "runs", "(IIII)V"⟩, 24) := ⟨⟨by decide +kernel, by decide +kernel⟩, List.mem_of_getElem? (i := 514) (by decide +kernel), List.mem_of_getElem? (i := 656) (by decide +kernel), List.mem_of_getElem? (i := 657) (by decide +kernel)⟩
theorem lw_p25 : lw_okq (⟨"RuinHouseModel", "isNought", "([I)Z"⟩, 24) := ⟨⟨by decide +kernel, by decide +kernel⟩, List.mem_of_getElem? (i := 514) (by decide +kernel), List.mem_of_getElem? (i := 663) (by decide +kernel), List.mem_of_getElem? (i := 664) (by decide +kernel)⟩
theorem lw_p26 : lw_okq (⟨"RuinHouseModel", "add", "([I[III)V"⟩, 24) := ⟨⟨by decide +kernel, by decide +kernel⟩, List.mem_of_getElem? (i := 514) (by decide +kernel), List.mem_of_getElem? (i := 667) (by decide +kernel), List.mem_of_getElem? (i := 668) (by decide +kernel)⟩
theorem lw_p27 : lw_okq (⟨"RuinHouseModel", "all", "(I[I)V"⟩, 24) := ⟨⟨by decide +kernel, by decide +kernel⟩, List.mem_of_getElem? (i := 514) (by decide +kernel), List.mem_of_getElem? (i := 675) (by decide +kernel), List.mem_of_getElem? (i := 676) (by decide +kernel)⟩
theorem lw_p28 : lw_okq (⟨"RuinHouseModel", "multiply", "([I[I[I)V"⟩, 24) := ⟨⟨by decide +kernel, by decide +kernel⟩, List.mem_of_getElem? (i := 514) (by decide +kernel), List.mem_of_getElem? (i := 705) (by decide +kernel), List.mem_of_getElem? (i := 706) (by decide +kernel)⟩
theorem lw_p29 : lw_okq (⟨"RuinHouseModel", "pays", "(II)I"⟩, 24) := ⟨⟨by decide +kernel, by decide +kernel⟩, List.mem_of_getElem? (i := 514) (by decide +kernel), List.mem_of_getElem? (i := 716) (by decide +kernel), List.mem_of_getElem? (i := 717) (by decide +kernel)⟩
theorem lw_p30 : lw_okq (⟨"RuinHouseModel", "pair", "(III)[I"⟩, 24) := ⟨⟨by decide +kernel, by decide +kernel⟩, List.mem_of_getElem? (i := 514) (by decide +kernel), List.mem_of_getElem? (i := 725) (by decide +kernel), List.mem_of_getElem? (i := 726) (by decide +kernel)⟩
theorem lw_p31 : lw_okq (⟨"RuinHouseModel", "steps", "(IIIIIIZ)V"⟩, 24) := ⟨⟨by decide +kernel, by decide +kernel⟩, List.mem_of_getElem? (i := 514) (by decide +kernel), List.mem_of_getElem? (i := 729) (by decide +kernel), List.mem_of_getElem? (i := 730) (by decide +kernel)⟩
def lw_privs_2 : List (MethodName × Nat) := [(⟨"RuinHouse", "stand", "(III)V"⟩, 11), (⟨"RuinHouse", "findPremium", "(III)I"⟩, 11), (⟨"RuinHouse", "isEnough", "(IIII)Z"⟩, 11), (⟨"RuinHouseModel", "isRight", "(I)Z"⟩, 24), (⟨"RuinHouseModel", "mean", "(I)I"⟩, 24), (⟨"RuinHouseModel", "stop", "(II)I"⟩, 24), (⟨"RuinHouseModel", "becomes", "(I)Z"⟩, 24), (⟨"RuinHouseModel", "canRuin", "(IIIII)Z"⟩, 24), (⟨"RuinHouseModel", "runs", "(IIII)V"⟩, 24), (⟨"RuinHouseModel", "isNought", "([I)Z"⟩, 24), (⟨"RuinHouseModel", "add", "([I[III)V"⟩, 24), (⟨"RuinHouseModel", "all", "(I[I)V"⟩, 24), (⟨"RuinHouseModel", "multiply", "([I[I[I)V"⟩, 24), (⟨"RuinHouseModel", "pays", "(II)I"⟩, 24), (⟨"RuinHouseModel", "pair", "(III)[I"⟩, 24), (⟨"RuinHouseModel", "steps", "(IIIIIIZ)V"⟩, 24)]
theorem lw_r2 : ∀ q ∈ lw_privs_2, lw_okq q := List.forall_mem_cons.mpr ⟨lw_p16, List.forall_mem_cons.mpr ⟨lw_p17, List.forall_mem_cons.mpr ⟨lw_p18, List.forall_mem_cons.mpr ⟨lw_p19, List.forall_mem_cons.mpr ⟨lw_p20, List.forall_mem_cons.mpr ⟨lw_p21, List.forall_mem_cons.mpr ⟨lw_p22, List.forall_mem_cons.mpr ⟨lw_p23, List.forall_mem_cons.mpr ⟨lw_p24, List.forall_mem_cons.mpr ⟨lw_p25, List.forall_mem_cons.mpr ⟨lw_p26, List.forall_mem_cons.mpr ⟨lw_p27, List.forall_mem_cons.mpr ⟨lw_p28, List.forall_mem_cons.mpr ⟨lw_p29, List.forall_mem_cons.mpr ⟨lw_p30, List.forall_mem_cons.mpr ⟨lw_p31, fun _ h => absurd h List.not_mem_nil⟩⟩⟩⟩⟩⟩⟩⟩⟩⟩⟩⟩⟩⟩⟩⟩
def lw_privs : List (MethodName × Nat) := lw_privs_1 ++ (lw_privs_2)
def lw_tbl : List Cond := k2_sels lw_privs ++ tables_1
theorem lw_privs_ok : ∀ q ∈ lw_privs, lw_okq q := by
  show ∀ q ∈ lw_privs_1 ++ (lw_privs_2), lw_okq q
  exact List.forall_mem_append.mpr ⟨lw_r1, lw_r2⟩
end
section
def RX0 : String := "RuinHouse$Book"
def TX0 : u_T := fun k => match k with
  | _ => ("RuinHouse$Book", "shares", "[I", true)
def tyX0 : Nat → FieldType := fun k => match k with
  | _ => .array .int
abbrev wsX00 : List Cond := u_ws RX0 TX0 1
theorem nmX0 : ∀ a, a < 1 → ∀ b, b < 1 → a ≠ b → (TX0 a).2.1 ≠ (TX0 b).2.1 := by decide +kernel
theorem tyX0_ok : ∀ k, k < 1 → parseFieldDescriptor (TX0 k).2.2.1 = some (tyX0 k) := by decide +kernel
abbrev cX0_init : ByteArray := prog_2_method_1_code
def yX0_init : MethodName := ⟨RX0, "<init>", "()V"⟩
abbrev cX0_read : ByteArray := prog_2_method_2_code
def yX0_read : MethodName := ⟨RX0, "read", "(I)I"⟩
abbrev cX0_write : ByteArray := prog_2_method_3_code
def yX0_write : MethodName := ⟨RX0, "write", "(II)V"⟩
abbrev cX0_isWhole : ByteArray := prog_2_method_4_code
def yX0_isWhole : MethodName := ⟨RX0, "isWhole", "()Z"⟩
abbrev cX0_mean : ByteArray := prog_2_method_5_code
def yX0_mean : MethodName := ⟨RX0, "mean", "()I"⟩
abbrev cX0_stopAbove : ByteArray := prog_2_method_6_code
def yX0_stopAbove : MethodName := ⟨RX0, "stopAbove", "(I)I"⟩
abbrev cX0_spread : ByteArray := prog_2_method_7_code
def yX0_spread : MethodName := ⟨RX0, "spread", "()I"⟩
def RX1 : String := "RuinHouse$Claims"
def TX1 : u_T := fun k => match k with
  | 0 => ("RuinHouse$Claims", "weights", "[J", true)
  | 1 => ("RuinHouse$Claims", "top", "I", false)
  | 2 => ("RuinHouse$Claims", "whole", "J", false)
  | _ => ("RuinHouse$Claims", "places", "I", false)
def tyX1 : Nat → FieldType := fun k => match k with
  | 0 => .array .long
  | 1 => .int
  | 2 => .long
  | _ => .int
abbrev wsX10 : List Cond := u_ws RX1 TX1 4
theorem nmX1 : ∀ a, a < 4 → ∀ b, b < 4 → a ≠ b → (TX1 a).2.1 ≠ (TX1 b).2.1 := by decide +kernel
theorem tyX1_ok : ∀ k, k < 4 → parseFieldDescriptor (TX1 k).2.2.1 = some (tyX1 k) := by decide +kernel
abbrev cX1_init : ByteArray := prog_3_method_1_code
def yX1_init : MethodName := ⟨RX1, "<init>", "()V"⟩
abbrev cX1_loadOne : ByteArray := prog_3_method_2_code
def yX1_loadOne : MethodName := ⟨RX1, "loadOne", "(LRuinHouse$Book;I)V"⟩
abbrev cX1_loadBoth : ByteArray := prog_3_method_3_code
def yX1_loadBoth : MethodName := ⟨RX1, "loadBoth", "(LRuinHouse$Book;LRuinHouse$Book;)V"⟩
abbrev cX1_empty : ByteArray := prog_3_method_4_code
def yX1_empty : MethodName := ⟨RX1, "empty", "(JI)V"⟩
abbrev cX1_add : ByteArray := prog_3_method_5_code
def yX1_add : MethodName := ⟨RX1, "add", "(IJ)V"⟩
abbrev cX1_weight : ByteArray := prog_3_method_6_code
def yX1_weight : MethodName := ⟨RX1, "weight", "(I)J"⟩
def RX2 : String := "RuinHouse$Forever"
def TX2 : u_T := fun k => match k with
  | 0 => ("RuinHouse$Forever", "stays", "LRuinHouse$Rows;", true)
  | 1 => ("RuinHouse$Forever", "sum", "LRuinHouse$Rows;", true)
  | 2 => ("RuinHouse$Forever", "power", "LRuinHouse$Rows;", true)
  | _ => ("RuinHouse$Forever", "rest", "LRuinHouse$Rows;", true)
def tyX2 : Nat → FieldType := fun k => match k with
  | 0 => .object "RuinHouse$Rows"
  | 1 => .object "RuinHouse$Rows"
  | 2 => .object "RuinHouse$Rows"
  | _ => .object "RuinHouse$Rows"
abbrev wsX20 : List Cond := u_ws RX2 TX2 4
theorem nmX2 : ∀ a, a < 4 → ∀ b, b < 4 → a ≠ b → (TX2 a).2.1 ≠ (TX2 b).2.1 := by decide +kernel
theorem tyX2_ok : ∀ k, k < 4 → parseFieldDescriptor (TX2 k).2.2.1 = some (tyX2 k) := by decide +kernel
abbrev cX2_init : ByteArray := prog_4_method_1_code
def yX2_init : MethodName := ⟨RX2, "<init>", "()V"⟩
abbrev cX2_work : ByteArray := prog_4_method_2_code
def yX2_work : MethodName := ⟨RX2, "work", "(LRuinHouse$Book;I)V"⟩
abbrev cX2_sumUp : ByteArray := prog_4_method_3_code
def yX2_sumUp : MethodName := ⟨RX2, "sumUp", "(LRuinHouse$Book;I)V"⟩
abbrev cX2_nextFigure : ByteArray := prog_4_method_4_code
def yX2_nextFigure : MethodName := ⟨RX2, "nextFigure", "()J"⟩
def RX3 : String := "RuinHouse$Payout"
def TX3 : u_T := fun k => match k with
  | 0 => ("RuinHouse$Payout", "claims", "LRuinHouse$Claims;", true)
  | 1 => ("RuinHouse$Payout", "unit", "LRuinHouse$Rows;", true)
  | 2 => ("RuinHouse$Payout", "rival", "LRuinHouse$Rows;", true)
  | 3 => ("RuinHouse$Payout", "now", "LRuinHouse$Rows;", false)
  | _ => ("RuinHouse$Payout", "next", "LRuinHouse$Rows;", false)
def tyX3 : Nat → FieldType := fun k => match k with
  | 0 => .object "RuinHouse$Claims"
  | 1 => .object "RuinHouse$Rows"
  | 2 => .object "RuinHouse$Rows"
  | 3 => .object "RuinHouse$Rows"
  | _ => .object "RuinHouse$Rows"
abbrev wsX30 : List Cond := u_ws RX3 TX3 5
theorem nmX3 : ∀ a, a < 5 → ∀ b, b < 5 → a ≠ b → (TX3 a).2.1 ≠ (TX3 b).2.1 := by decide +kernel
theorem tyX3_ok : ∀ k, k < 5 → parseFieldDescriptor (TX3 k).2.2.1 = some (tyX3 k) := by decide +kernel
abbrev cX3_init : ByteArray := prog_5_method_1_code
def yX3_init : MethodName := ⟨RX3, "<init>", "()V"⟩
abbrev cX3_work : ByteArray := prog_5_method_2_code
def yX3_work : MethodName := ⟨RX3, "work", "(III)I"⟩
abbrev cX3_goBack : ByteArray := prog_5_method_3_code
def yX3_goBack : MethodName := ⟨RX3, "goBack", "(II)I"⟩
abbrev cX3_payOne : ByteArray := prog_5_method_4_code
def yX3_payOne : MethodName := ⟨RX3, "payOne", "(I)Z"⟩
def RX4 : String := "RuinHouse$Rows"
def TX4 : u_T := fun k => match k with
  | 0 => ("RuinHouse$Rows", "height", "I", true)
  | 1 => ("RuinHouse$Rows", "width", "I", true)
  | 2 => ("RuinHouse$Rows", "cells", "[J", true)
  | _ => ("RuinHouse$Rows", "used", "I", false)
def tyX4 : Nat → FieldType := fun k => match k with
  | 0 => .int
  | 1 => .int
  | 2 => .array .long
  | _ => .int
abbrev wsX40 : List Cond := u_ws RX4 TX4 4
theorem nmX4 : ∀ a, a < 4 → ∀ b, b < 4 → a ≠ b → (TX4 a).2.1 ≠ (TX4 b).2.1 := by decide +kernel
theorem tyX4_ok : ∀ k, k < 4 → parseFieldDescriptor (TX4 k).2.2.1 = some (tyX4 k) := by decide +kernel
abbrev cX4_init : ByteArray := prog_6_method_1_code
def yX4_init : MethodName := ⟨RX4, "<init>", "(II)V"⟩
abbrev cX4_has : ByteArray := prog_6_method_2_code
def yX4_has : MethodName := ⟨RX4, "has", "(I)Z"⟩
abbrev cX4_open : ByteArray := prog_6_method_3_code
def yX4_open : MethodName := ⟨RX4, "open", "(I)V"⟩
abbrev cX4_wipe : ByteArray := prog_6_method_4_code
def yX4_wipe : MethodName := ⟨RX4, "wipe", "()V"⟩
abbrev cX4_put : ByteArray := prog_6_method_5_code
def yX4_put : MethodName := ⟨RX4, "put", "(IJ)V"⟩
abbrev cX4_copy : ByteArray := prog_6_method_6_code
def yX4_copy : MethodName := ⟨RX4, "copy", "(ILRuinHouse$Rows;I)V"⟩
abbrev cX4_times : ByteArray := prog_6_method_7_code
def yX4_times : MethodName := ⟨RX4, "times", "(IJJ)V"⟩
abbrev cX4_combine : ByteArray := prog_6_method_8_code
def yX4_combine : MethodName := ⟨RX4, "combine", "(IJLRuinHouse$Rows;IJ)V"⟩
abbrev cX4_mix : ByteArray := prog_6_method_9_code
def yX4_mix : MethodName := ⟨RX4, "mix", "(ILRuinHouse$Rows;IILRuinHouse$Claims;I)V"⟩
abbrev cX4_gather : ByteArray := prog_6_method_10_code
def yX4_gather : MethodName := ⟨RX4, "gather", "(ILRuinHouse$Rows;IJI)V"⟩
abbrev cX4_order : ByteArray := prog_6_method_11_code
def yX4_order : MethodName := ⟨RX4, "order", "(ILRuinHouse$Rows;I)I"⟩
abbrev cX4_figure : ByteArray := prog_6_method_12_code
def yX4_figure : MethodName := ⟨RX4, "figure", "(II)I"⟩
abbrev cX4_read : ByteArray := prog_6_method_13_code
def yX4_read : MethodName := ⟨RX4, "read", "(II)J"⟩
abbrev cX4_write : ByteArray := prog_6_method_14_code
def yX4_write : MethodName := ⟨RX4, "write", "(IIJ)V"⟩
def RX5 : String := "RuinHouse$Walk"
def TX5 : u_T := fun k => match k with
  | 0 => ("RuinHouse$Walk", "claims", "LRuinHouse$Claims;", true)
  | 1 => ("RuinHouse$Walk", "fallen", "LRuinHouse$Rows;", true)
  | 2 => ("RuinHouse$Walk", "sum", "LRuinHouse$Rows;", true)
  | 3 => ("RuinHouse$Walk", "now", "LRuinHouse$Rows;", false)
  | 4 => ("RuinHouse$Walk", "next", "LRuinHouse$Rows;", false)
  | 5 => ("RuinHouse$Walk", "premium", "I", false)
  | 6 => ("RuinHouse$Walk", "left", "I", false)
  | 7 => ("RuinHouse$Walk", "reach", "I", false)
  | _ => ("RuinHouse$Walk", "places", "I", false)
def tyX5 : Nat → FieldType := fun k => match k with
  | 0 => .object "RuinHouse$Claims"
  | 1 => .object "RuinHouse$Rows"
  | 2 => .object "RuinHouse$Rows"
  | 3 => .object "RuinHouse$Rows"
  | 4 => .object "RuinHouse$Rows"
  | 5 => .int
  | 6 => .int
  | 7 => .int
  | _ => .int
abbrev wsX50 : List Cond := u_ws RX5 TX5 9
theorem nmX5 : ∀ a, a < 9 → ∀ b, b < 9 → a ≠ b → (TX5 a).2.1 ≠ (TX5 b).2.1 := by decide +kernel
theorem tyX5_ok : ∀ k, k < 9 → parseFieldDescriptor (TX5 k).2.2.1 = some (tyX5 k) := by decide +kernel
abbrev cX5_init : ByteArray := prog_7_method_1_code
def yX5_init : MethodName := ⟨RX5, "<init>", "()V"⟩
abbrev cX5_begin : ByteArray := prog_7_method_2_code
def yX5_begin : MethodName := ⟨RX5, "begin", "(IIILRuinHouse$Rows;I)V"⟩
abbrev cX5_fall : ByteArray := prog_7_method_3_code
def yX5_fall : MethodName := ⟨RX5, "fall", "(I)V"⟩
abbrev cX5_tick : ByteArray := prog_7_method_4_code
def yX5_tick : MethodName := ⟨RX5, "tick", "()V"⟩
abbrev cX5_sumUp : ByteArray := prog_7_method_5_code
def yX5_sumUp : MethodName := ⟨RX5, "sumUp", "()V"⟩
abbrev cX5_liveRows : ByteArray := prog_7_method_6_code
def yX5_liveRows : MethodName := ⟨RX5, "liveRows", "()I"⟩
abbrev cX5_nextLimbs : ByteArray := prog_7_method_7_code
def yX5_nextLimbs : MethodName := ⟨RX5, "nextLimbs", "()I"⟩
def RX6 : String := "RuinHouse"
def TX6 : u_T := fun k => match k with
  | 0 => ("RuinHouse", "books", "[LRuinHouse$Book;", true)
  | 1 => ("RuinHouse", "moved", "[I", true)
  | 2 => ("RuinHouse", "walk", "LRuinHouse$Walk;", true)
  | 3 => ("RuinHouse", "payout", "LRuinHouse$Payout;", true)
  | 4 => ("RuinHouse", "forever", "LRuinHouse$Forever;", true)
  | 5 => ("RuinHouse", "number", "LRuinHouse$Rows;", true)
  | 6 => ("RuinHouse", "bound", "LRuinHouse$Rows;", true)
  | 7 => ("RuinHouse", "byTick", "LRuinHouse$Rows;", true)
  | 8 => ("RuinHouse", "byDepth", "LRuinHouse$Rows;", true)
  | 9 => ("RuinHouse", "numberPlaces", "I", false)
  | _ => ("RuinHouse", "ruinTicks", "I", false)
def tyX6 : Nat → FieldType := fun k => match k with
  | 0 => .array (.object "RuinHouse$Book")
  | 1 => .array .int
  | 2 => .object "RuinHouse$Walk"
  | 3 => .object "RuinHouse$Payout"
  | 4 => .object "RuinHouse$Forever"
  | 5 => .object "RuinHouse$Rows"
  | 6 => .object "RuinHouse$Rows"
  | 7 => .object "RuinHouse$Rows"
  | 8 => .object "RuinHouse$Rows"
  | 9 => .int
  | _ => .int
abbrev wsX60 : List Cond := u_ws RX6 TX6 11
theorem nmX6 : ∀ a, a < 11 → ∀ b, b < 11 → a ≠ b → (TX6 a).2.1 ≠ (TX6 b).2.1 := by decide +kernel
theorem tyX6_ok : ∀ k, k < 11 → parseFieldDescriptor (TX6 k).2.2.1 = some (tyX6 k) := by decide +kernel
abbrev cX6_init : ByteArray := prog_1_method_1_code
def yX6_init : MethodName := ⟨RX6, "<init>", "()V"⟩
abbrev cX6_set : ByteArray := prog_1_method_2_code
def yX6_set : MethodName := ⟨RX6, "set", "(III)Z"⟩
abbrev cX6_parts : ByteArray := prog_1_method_3_code
def yX6_parts : MethodName := ⟨RX6, "parts", "(II)I"⟩
abbrev cX6_right : ByteArray := prog_1_method_4_code
def yX6_right : MethodName := ⟨RX6, "right", "(I)Z"⟩
abbrev cX6_told : ByteArray := prog_1_method_5_code
def yX6_told : MethodName := ⟨RX6, "told", "(III)I"⟩
abbrev cX6_layer : ByteArray := prog_1_method_6_code
def yX6_layer : MethodName := ⟨RX6, "layer", "(IIIZI)Z"⟩
abbrev cX6_part : ByteArray := prog_1_method_7_code
def yX6_part : MethodName := ⟨RX6, "part", "(IIZI)Z"⟩
abbrev cX6_ruin : ByteArray := prog_1_method_8_code
def yX6_ruin : MethodName := ⟨RX6, "ruin", "(IIII)Z"⟩
abbrev cX6_at : ByteArray := prog_1_method_9_code
def yX6_at : MethodName := ⟨RX6, "at", "(II)I"⟩
abbrev cX6_deep : ByteArray := prog_1_method_10_code
def yX6_deep : MethodName := ⟨RX6, "deep", "(II)I"⟩
abbrev cX6_ever : ByteArray := prog_1_method_11_code
def yX6_ever : MethodName := ⟨RX6, "ever", "(II)Z"⟩
abbrev cX6_worth : ByteArray := prog_1_method_12_code
def yX6_worth : MethodName := ⟨RX6, "worth", "(IIIII)I"⟩
abbrev cX6_two : ByteArray := prog_1_method_13_code
def yX6_two : MethodName := ⟨RX6, "two", "(IIIIZ)Z"⟩
abbrev cX6_digit : ByteArray := prog_1_method_14_code
def yX6_digit : MethodName := ⟨RX6, "digit", "(I)I"⟩
abbrev cX6_decimals : ByteArray := prog_1_method_15_code
def yX6_decimals : MethodName := ⟨RX6, "decimals", "()I"⟩
abbrev cX6_just : ByteArray := prog_1_method_16_code
def yX6_just : MethodName := ⟨RX6, "just", "(IIII)I"⟩
abbrev cX6_lighter : ByteArray := prog_1_method_17_code
def yX6_lighter : MethodName := ⟨RX6, "lighter", "(II)Z"⟩
abbrev cX6_isWithin : ByteArray := prog_1_method_18_code
def yX6_isWithin : MethodName := ⟨RX6, "isWithin", "(III)Z"⟩
abbrev cX6_findBook : ByteArray := prog_1_method_19_code
def yX6_findBook : MethodName := ⟨RX6, "findBook", "(I)LRuinHouse$Book;"⟩
abbrev cX6_findRight : ByteArray := prog_1_method_20_code
def yX6_findRight : MethodName := ⟨RX6, "findRight", "(I)LRuinHouse$Book;"⟩
abbrev cX6_move : ByteArray := prog_1_method_21_code
def yX6_move : MethodName := ⟨RX6, "move", "(II)V"⟩
abbrev cX6_writeMoved : ByteArray := prog_1_method_22_code
def yX6_writeMoved : MethodName := ⟨RX6, "writeMoved", "(LRuinHouse$Book;)V"⟩
abbrev cX6_startNumber : ByteArray := prog_1_method_23_code
def yX6_startNumber : MethodName := ⟨RX6, "startNumber", "(J)V"⟩
abbrev cX6_noteTick : ByteArray := prog_1_method_24_code
def yX6_noteTick : MethodName := ⟨RX6, "noteTick", "(I)V"⟩
abbrev cX6_stand : ByteArray := prog_1_method_25_code
def yX6_stand : MethodName := ⟨RX6, "stand", "(III)V"⟩
abbrev cX6_findPremium : ByteArray := prog_1_method_26_code
def yX6_findPremium : MethodName := ⟨RX6, "findPremium", "(III)I"⟩
abbrev cX6_isEnough : ByteArray := prog_1_method_27_code
def yX6_isEnough : MethodName := ⟨RX6, "isEnough", "(IIII)Z"⟩
def RX7 : String := "RuinHouseModel"
def TX7 : u_T := fun k => match k with
  | 0 => ("RuinHouseModel", "parts", "[[I", true)
  | 1 => ("RuinHouseModel", "number", "[I", true)
  | 2 => ("RuinHouseModel", "behind", "I", false)
  | 3 => ("RuinHouseModel", "byTick", "[[I", true)
  | 4 => ("RuinHouseModel", "byDepth", "[[I", true)
  | 5 => ("RuinHouseModel", "ruinTicks", "I", false)
  | 6 => ("RuinHouseModel", "made", "[I", true)
  | 7 => ("RuinHouseModel", "span", "I", false)
  | 8 => ("RuinHouseModel", "one", "[I", true)
  | 9 => ("RuinHouseModel", "alive", "[[I", true)
  | 10 => ("RuinHouseModel", "next", "[[I", true)
  | 11 => ("RuinHouseModel", "ruinAt", "[[I", true)
  | 12 => ("RuinHouseModel", "ruinBy", "[[I", true)
  | 13 => ("RuinHouseModel", "sum", "[I", true)
  | 14 => ("RuinHouseModel", "bound", "[I", true)
  | 15 => ("RuinHouseModel", "d", "[[I", true)
  | 16 => ("RuinHouseModel", "powers", "[[I", true)
  | 17 => ("RuinHouseModel", "product", "[I", true)
  | 18 => ("RuinHouseModel", "rest", "[I", true)
  | 19 => ("RuinHouseModel", "worths", "[[I", true)
  | 20 => ("RuinHouseModel", "laters", "[[I", true)
  | 21 => ("RuinHouseModel", "best", "[I", true)
  | 22 => ("RuinHouseModel", "other", "[I", true)
  | _ => ("RuinHouseModel", "both", "[[I", true)
def tyX7 : Nat → FieldType := fun k => match k with
  | 0 => .array (.array .int)
  | 1 => .array .int
  | 2 => .int
  | 3 => .array (.array .int)
  | 4 => .array (.array .int)
  | 5 => .int
  | 6 => .array .int
  | 7 => .int
  | 8 => .array .int
  | 9 => .array (.array .int)
  | 10 => .array (.array .int)
  | 11 => .array (.array .int)
  | 12 => .array (.array .int)
  | 13 => .array .int
  | 14 => .array .int
  | 15 => .array (.array .int)
  | 16 => .array (.array .int)
  | 17 => .array .int
  | 18 => .array .int
  | 19 => .array (.array .int)
  | 20 => .array (.array .int)
  | 21 => .array .int
  | 22 => .array .int
  | _ => .array (.array .int)
abbrev wsX70 : List Cond := u_ws RX7 TX7 24
theorem nmX7 : ∀ a, a < 24 → ∀ b, b < 24 → a ≠ b → (TX7 a).2.1 ≠ (TX7 b).2.1 := by decide +kernel
theorem tyX7_ok : ∀ k, k < 24 → parseFieldDescriptor (TX7 k).2.2.1 = some (tyX7 k) := by decide +kernel
abbrev cX7_init : ByteArray := prog_9_method_1_code
def yX7_init : MethodName := ⟨RX7, "<init>", "()V"⟩
abbrev cX7_in : ByteArray := prog_9_method_2_code
def yX7_in : MethodName := ⟨RX7, "in", "(III)Z"⟩
abbrev cX7_isBook : ByteArray := prog_9_method_3_code
def yX7_isBook : MethodName := ⟨RX7, "isBook", "(I)Z"⟩
abbrev cX7_isRight : ByteArray := prog_9_method_4_code
def yX7_isRight : MethodName := ⟨RX7, "isRight", "(I)Z"⟩
abbrev cX7_set : ByteArray := prog_9_method_5_code
def yX7_set : MethodName := ⟨RX7, "set", "(III)Z"⟩
abbrev cX7_parts : ByteArray := prog_9_method_6_code
def yX7_parts : MethodName := ⟨RX7, "parts", "(II)I"⟩
abbrev cX7_right : ByteArray := prog_9_method_7_code
def yX7_right : MethodName := ⟨RX7, "right", "(I)Z"⟩
abbrev cX7_mean : ByteArray := prog_9_method_8_code
def yX7_mean : MethodName := ⟨RX7, "mean", "(I)I"⟩
abbrev cX7_stop : ByteArray := prog_9_method_9_code
def yX7_stop : MethodName := ⟨RX7, "stop", "(II)I"⟩
abbrev cX7_told : ByteArray := prog_9_method_10_code
def yX7_told : MethodName := ⟨RX7, "told", "(III)I"⟩
abbrev cX7_becomes : ByteArray := prog_9_method_11_code
def yX7_becomes : MethodName := ⟨RX7, "becomes", "(I)Z"⟩
abbrev cX7_layer : ByteArray := prog_9_method_12_code
def yX7_layer : MethodName := ⟨RX7, "layer", "(IIIZI)Z"⟩
abbrev cX7_part : ByteArray := prog_9_method_13_code
def yX7_part : MethodName := ⟨RX7, "part", "(IIZI)Z"⟩
abbrev cX7_lighter : ByteArray := prog_9_method_14_code
def yX7_lighter : MethodName := ⟨RX7, "lighter", "(II)Z"⟩
abbrev cX7_zero : ByteArray := prog_9_method_15_code
def yX7_zero : MethodName := ⟨RX7, "zero", "([I)V"⟩
abbrev cX7_copy : ByteArray := prog_9_method_16_code
def yX7_copy : MethodName := ⟨RX7, "copy", "([I[I)V"⟩
abbrev cX7_add : ByteArray := prog_9_method_17_code
def yX7_add : MethodName := ⟨RX7, "add", "([I[III)V"⟩
abbrev cX7_take : ByteArray := prog_9_method_18_code
def yX7_take : MethodName := ⟨RX7, "take", "([I[I)V"⟩
abbrev cX7_compare : ByteArray := prog_9_method_19_code
def yX7_compare : MethodName := ⟨RX7, "compare", "([I[I)I"⟩
abbrev cX7_set_ : ByteArray := prog_9_method_20_code
def yX7_set_ : MethodName := ⟨RX7, "set", "([III)V"⟩
abbrev cX7_decimal : ByteArray := prog_9_method_21_code
def yX7_decimal : MethodName := ⟨RX7, "decimal", "([III)I"⟩
abbrev cX7_canRuin : ByteArray := prog_9_method_22_code
def yX7_canRuin : MethodName := ⟨RX7, "canRuin", "(IIIII)Z"⟩
abbrev cX7_runs : ByteArray := prog_9_method_23_code
def yX7_runs : MethodName := ⟨RX7, "runs", "(IIII)V"⟩
abbrev cX7_all : ByteArray := prog_9_method_24_code
def yX7_all : MethodName := ⟨RX7, "all", "(I[I)V"⟩
abbrev cX7_ruin : ByteArray := prog_9_method_25_code
def yX7_ruin : MethodName := ⟨RX7, "ruin", "(IIII)Z"⟩
abbrev cX7_at : ByteArray := prog_9_method_26_code
def yX7_at : MethodName := ⟨RX7, "at", "(II)I"⟩
abbrev cX7_deep : ByteArray := prog_9_method_27_code
def yX7_deep : MethodName := ⟨RX7, "deep", "(II)I"⟩
abbrev cX7_just : ByteArray := prog_9_method_28_code
def yX7_just : MethodName := ⟨RX7, "just", "(IIII)I"⟩
abbrev cX7_multiply : ByteArray := prog_9_method_29_code
def yX7_multiply : MethodName := ⟨RX7, "multiply", "([I[I[I)V"⟩
abbrev cX7_ever : ByteArray := prog_9_method_30_code
def yX7_ever : MethodName := ⟨RX7, "ever", "(II)Z"⟩
abbrev cX7_pays : ByteArray := prog_9_method_31_code
def yX7_pays : MethodName := ⟨RX7, "pays", "(II)I"⟩
abbrev cX7_worth : ByteArray := prog_9_method_32_code
def yX7_worth : MethodName := ⟨RX7, "worth", "(IIIII)I"⟩
abbrev cX7_pair : ByteArray := prog_9_method_33_code
def yX7_pair : MethodName := ⟨RX7, "pair", "(III)[I"⟩
abbrev cX7_two : ByteArray := prog_9_method_34_code
def yX7_two : MethodName := ⟨RX7, "two", "(IIIIZ)Z"⟩
abbrev cX7_isNought : ByteArray := prog_9_method_35_code
def yX7_isNought : MethodName := ⟨RX7, "isNought", "([I)Z"⟩
abbrev cX7_steps : ByteArray := prog_9_method_36_code
def yX7_steps : MethodName := ⟨RX7, "steps", "(IIIIIIZ)V"⟩
abbrev cX7_digit : ByteArray := prog_9_method_37_code
def yX7_digit : MethodName := ⟨RX7, "digit", "(I)I"⟩
abbrev cX7_decimals : ByteArray := prog_9_method_38_code
def yX7_decimals : MethodName := ⟨RX7, "decimals", "()I"⟩
def RJ13 : String := "java/lang/Long"
def TJ13 : u_T := fun k => match k with
  | _ => ("", "", "", false)
def tyJ13 : Nat → FieldType := fun k => match k with
  | _ => .int
abbrev cJ13_compare_74951 : ByteArray := prog_10_method_42_code
def yJ13_compare_74951 : MethodName := ⟨RJ13, "compare", "(JJ)I"⟩
def RJ9 : String := "java/lang/Math"
def TJ9 : u_T := fun k => match k with
  | _ => ("", "", "", false)
def tyJ9 : Nat → FieldType := fun k => match k with
  | _ => .int
abbrev cJ9_floorDiv_f86c9 : ByteArray := prog_11_method_49_code
def yJ9_floorDiv_f86c9 : MethodName := ⟨RJ9, "floorDiv", "(JJ)J"⟩
abbrev cJ9_floorMod_f86c9 : ByteArray := prog_11_method_52_code
def yJ9_floorMod_f86c9 : MethodName := ⟨RJ9, "floorMod", "(JJ)J"⟩
abbrev cJ9_max_7cf53 : ByteArray := prog_11_method_65_code
def yJ9_max_7cf53 : MethodName := ⟨RJ9, "max", "(II)I"⟩
abbrev cJ9_min_7cf53 : ByteArray := prog_11_method_69_code
def yJ9_min_7cf53 : MethodName := ⟨RJ9, "min", "(II)I"⟩
def RJ7 : String := "java/util/Arrays"
def TJ7 : u_T := fun k => match k with
  | _ => ("", "", "", false)
def tyJ7 : Nat → FieldType := fun k => match k with
  | _ => .int
abbrev cJ7_fill_d0a16 : ByteArray := prog_12_method_101_code
def yJ7_fill_d0a16 : MethodName := ⟨RJ7, "fill", "([JJ)V"⟩
abbrev cJ7_fill_53178 : ByteArray := prog_12_method_103_code
def yJ7_fill_53178 : MethodName := ⟨RJ7, "fill", "([II)V"⟩
def RL : String := "RuinHouseLaw"
abbrev cL_law : ByteArray := code
def yL_law : MethodName := ⟨RL, "law", "([I)Z"⟩
abbrev vwCl : List vw_C := [(RX0, TX0, 1), (RX1, TX1, 4), (RX2, TX2, 4), (RX3, TX3, 5), (RX4, TX4, 4), (RX5, TX5, 9), (RX6, TX6, 11), (RX7, TX7, 24)]
end
section
theorem dX0_init_0 : decode cX0_init 0 = .ok (.aload_n 0, 1) := by decide +kernel
theorem dX0_init_1 : decode cX0_init 1 = .ok (.invokespecial 3, 3) := by decide +kernel
theorem dX0_init_4 : decode cX0_init 4 = .ok (.aload_n 0, 1) := by decide +kernel
theorem dX0_init_5 : decode cX0_init 5 = .ok (.bipush 21, 2) := by decide +kernel
theorem dX0_init_7 : decode cX0_init 7 = .ok (.newarray .int, 2) := by decide +kernel
theorem dX0_init_9 : decode cX0_init 9 = .ok (.putfield 9, 3) := by decide +kernel
theorem dX0_init_12 : decode cX0_init 12 = .ok (.return_, 1) := by decide +kernel
theorem dX0_read_0 : decode cX0_read 0 = .ok (.iload_n 1, 1) := by decide +kernel
theorem dX0_read_1 : decode cX0_read 1 = .ok (.ifCond .lt 21, 3) := by decide +kernel
theorem dX0_read_4 : decode cX0_read 4 = .ok (.iload_n 1, 1) := by decide +kernel
theorem dX0_read_5 : decode cX0_read 5 = .ok (.aload_n 0, 1) := by decide +kernel
theorem dX0_read_6 : decode cX0_read 6 = .ok (.getfield 9, 3) := by decide +kernel
theorem dX0_read_9 : decode cX0_read 9 = .ok (.arraylength, 1) := by decide +kernel
theorem dX0_read_10 : decode cX0_read 10 = .ok (.if_icmp .ge 12, 3) := by decide +kernel
theorem dX0_read_13 : decode cX0_read 13 = .ok (.aload_n 0, 1) := by decide +kernel
theorem dX0_read_14 : decode cX0_read 14 = .ok (.getfield 9, 3) := by decide +kernel
theorem dX0_read_17 : decode cX0_read 17 = .ok (.iload_n 1, 1) := by decide +kernel
theorem dX0_read_18 : decode cX0_read 18 = .ok (.iaload, 1) := by decide +kernel
theorem dX0_read_19 : decode cX0_read 19 = .ok (.goto 4, 3) := by decide +kernel
theorem dX0_read_22 : decode cX0_read 22 = .ok (.iconst 0, 1) := by decide +kernel
theorem dX0_read_23 : decode cX0_read 23 = .ok (.ireturn, 1) := by decide +kernel
theorem dX0_write_0 : decode cX0_write 0 = .ok (.iload_n 1, 1) := by decide +kernel
theorem dX0_write_1 : decode cX0_write 1 = .ok (.ifCond .lt 19, 3) := by decide +kernel
theorem dX0_write_4 : decode cX0_write 4 = .ok (.iload_n 1, 1) := by decide +kernel
theorem dX0_write_5 : decode cX0_write 5 = .ok (.aload_n 0, 1) := by decide +kernel
theorem dX0_write_6 : decode cX0_write 6 = .ok (.getfield 9, 3) := by decide +kernel
theorem dX0_write_9 : decode cX0_write 9 = .ok (.arraylength, 1) := by decide +kernel
theorem dX0_write_10 : decode cX0_write 10 = .ok (.if_icmp .ge 10, 3) := by decide +kernel
theorem dX0_write_13 : decode cX0_write 13 = .ok (.aload_n 0, 1) := by decide +kernel
theorem dX0_write_14 : decode cX0_write 14 = .ok (.getfield 9, 3) := by decide +kernel
theorem dX0_write_17 : decode cX0_write 17 = .ok (.iload_n 1, 1) := by decide +kernel
theorem dX0_write_18 : decode cX0_write 18 = .ok (.iload_n 2, 1) := by decide +kernel
theorem dX0_write_19 : decode cX0_write 19 = .ok (.iastore, 1) := by decide +kernel
theorem dX0_write_20 : decode cX0_write 20 = .ok (.return_, 1) := by decide +kernel
theorem dX0_isWhole_0 : decode cX0_isWhole 0 = .ok (.iconst 0, 1) := by decide +kernel
theorem dX0_isWhole_1 : decode cX0_isWhole 1 = .ok (.istore_n 1, 1) := by decide +kernel
theorem dX0_isWhole_2 : decode cX0_isWhole 2 = .ok (.iconst 0, 1) := by decide +kernel
theorem dX0_isWhole_3 : decode cX0_isWhole 3 = .ok (.istore_n 2, 1) := by decide +kernel
theorem dX0_isWhole_4 : decode cX0_isWhole 4 = .ok (.iload_n 2, 1) := by decide +kernel
theorem dX0_isWhole_5 : decode cX0_isWhole 5 = .ok (.aload_n 0, 1) := by decide +kernel
theorem dX0_isWhole_6 : decode cX0_isWhole 6 = .ok (.getfield 9, 3) := by decide +kernel
theorem dX0_isWhole_9 : decode cX0_isWhole 9 = .ok (.arraylength, 1) := by decide +kernel
theorem dX0_isWhole_10 : decode cX0_isWhole 10 = .ok (.if_icmp .ge 18, 3) := by decide +kernel
theorem dX0_isWhole_13 : decode cX0_isWhole 13 = .ok (.iload_n 1, 1) := by decide +kernel
theorem dX0_isWhole_14 : decode cX0_isWhole 14 = .ok (.aload_n 0, 1) := by decide +kernel
theorem dX0_isWhole_15 : decode cX0_isWhole 15 = .ok (.getfield 9, 3) := by decide +kernel
theorem dX0_isWhole_18 : decode cX0_isWhole 18 = .ok (.iload_n 2, 1) := by decide +kernel
theorem dX0_isWhole_19 : decode cX0_isWhole 19 = .ok (.iaload, 1) := by decide +kernel
theorem dX0_isWhole_20 : decode cX0_isWhole 20 = .ok (.iadd, 1) := by decide +kernel
theorem dX0_isWhole_21 : decode cX0_isWhole 21 = .ok (.istore_n 1, 1) := by decide +kernel
theorem dX0_isWhole_22 : decode cX0_isWhole 22 = .ok (.iinc 2 1, 3) := by decide +kernel
theorem dX0_isWhole_25 : decode cX0_isWhole 25 = .ok (.goto (-21), 3) := by decide +kernel
theorem dX0_isWhole_28 : decode cX0_isWhole 28 = .ok (.iload_n 1, 1) := by decide +kernel
theorem dX0_isWhole_29 : decode cX0_isWhole 29 = .ok (.sipush 1000, 3) := by decide +kernel
theorem dX0_isWhole_32 : decode cX0_isWhole 32 = .ok (.if_icmp .ne 7, 3) := by decide +kernel
theorem dX0_isWhole_35 : decode cX0_isWhole 35 = .ok (.iconst 1, 1) := by decide +kernel
theorem dX0_isWhole_36 : decode cX0_isWhole 36 = .ok (.goto 4, 3) := by decide +kernel
theorem dX0_isWhole_39 : decode cX0_isWhole 39 = .ok (.iconst 0, 1) := by decide +kernel
theorem dX0_isWhole_40 : decode cX0_isWhole 40 = .ok (.ireturn, 1) := by decide +kernel
theorem dX0_mean_0 : decode cX0_mean 0 = .ok (.aload_n 0, 1) := by decide +kernel
theorem dX0_mean_1 : decode cX0_mean 1 = .ok (.iconst 0, 1) := by decide +kernel
theorem dX0_mean_2 : decode cX0_mean 2 = .ok (.invokevirtual 15, 3) := by decide +kernel
theorem dX0_mean_5 : decode cX0_mean 5 = .ok (.ireturn, 1) := by decide +kernel
theorem dX0_stopAbove_0 : decode cX0_stopAbove 0 = .ok (.iconst 0, 1) := by decide +kernel
theorem dX0_stopAbove_1 : decode cX0_stopAbove 1 = .ok (.istore_n 2, 1) := by decide +kernel
theorem dX0_stopAbove_2 : decode cX0_stopAbove 2 = .ok (.iconst 0, 1) := by decide +kernel
theorem dX0_stopAbove_3 : decode cX0_stopAbove 3 = .ok (.istore_n 3, 1) := by decide +kernel
theorem dX0_stopAbove_4 : decode cX0_stopAbove 4 = .ok (.iload_n 3, 1) := by decide +kernel
theorem dX0_stopAbove_5 : decode cX0_stopAbove 5 = .ok (.aload_n 0, 1) := by decide +kernel
theorem dX0_stopAbove_6 : decode cX0_stopAbove 6 = .ok (.getfield 9, 3) := by decide +kernel
theorem dX0_stopAbove_9 : decode cX0_stopAbove 9 = .ok (.arraylength, 1) := by decide +kernel
theorem dX0_stopAbove_10 : decode cX0_stopAbove 10 = .ok (.if_icmp .ge 26, 3) := by decide +kernel
theorem dX0_stopAbove_13 : decode cX0_stopAbove 13 = .ok (.iload_n 2, 1) := by decide +kernel
theorem dX0_stopAbove_14 : decode cX0_stopAbove 14 = .ok (.iload_n 3, 1) := by decide +kernel
theorem dX0_stopAbove_15 : decode cX0_stopAbove 15 = .ok (.iload_n 1, 1) := by decide +kernel
theorem dX0_stopAbove_16 : decode cX0_stopAbove 16 = .ok (.isub, 1) := by decide +kernel
theorem dX0_stopAbove_17 : decode cX0_stopAbove 17 = .ok (.iconst 0, 1) := by decide +kernel
theorem dX0_stopAbove_18 : decode cX0_stopAbove 18 = .ok (.invokestatic 19, 3) := by decide +kernel
theorem dX0_stopAbove_21 : decode cX0_stopAbove 21 = .ok (.aload_n 0, 1) := by decide +kernel
theorem dX0_stopAbove_22 : decode cX0_stopAbove 22 = .ok (.getfield 9, 3) := by decide +kernel
theorem dX0_stopAbove_25 : decode cX0_stopAbove 25 = .ok (.iload_n 3, 1) := by decide +kernel
theorem dX0_stopAbove_26 : decode cX0_stopAbove 26 = .ok (.iaload, 1) := by decide +kernel
theorem dX0_stopAbove_27 : decode cX0_stopAbove 27 = .ok (.imul, 1) := by decide +kernel
theorem dX0_stopAbove_28 : decode cX0_stopAbove 28 = .ok (.iadd, 1) := by decide +kernel
theorem dX0_stopAbove_29 : decode cX0_stopAbove 29 = .ok (.istore_n 2, 1) := by decide +kernel
theorem dX0_stopAbove_30 : decode cX0_stopAbove 30 = .ok (.iinc 3 1, 3) := by decide +kernel
theorem dX0_stopAbove_33 : decode cX0_stopAbove 33 = .ok (.goto (-29), 3) := by decide +kernel
theorem dX0_stopAbove_36 : decode cX0_stopAbove 36 = .ok (.iload_n 2, 1) := by decide +kernel
theorem dX0_stopAbove_37 : decode cX0_stopAbove 37 = .ok (.ireturn, 1) := by decide +kernel
theorem dX0_spread_0 : decode cX0_spread 0 = .ok (.iconst 0, 1) := by decide +kernel
theorem dX0_spread_1 : decode cX0_spread 1 = .ok (.istore_n 1, 1) := by decide +kernel
theorem dX0_spread_2 : decode cX0_spread 2 = .ok (.iconst 0, 1) := by decide +kernel
theorem dX0_spread_3 : decode cX0_spread 3 = .ok (.istore_n 2, 1) := by decide +kernel
theorem dX0_spread_4 : decode cX0_spread 4 = .ok (.iload_n 2, 1) := by decide +kernel
theorem dX0_spread_5 : decode cX0_spread 5 = .ok (.aload_n 0, 1) := by decide +kernel
theorem dX0_spread_6 : decode cX0_spread 6 = .ok (.getfield 9, 3) := by decide +kernel
theorem dX0_spread_9 : decode cX0_spread 9 = .ok (.arraylength, 1) := by decide +kernel
theorem dX0_spread_10 : decode cX0_spread 10 = .ok (.if_icmp .ge 22, 3) := by decide +kernel
theorem dX0_spread_13 : decode cX0_spread 13 = .ok (.iload_n 1, 1) := by decide +kernel
theorem dX0_spread_14 : decode cX0_spread 14 = .ok (.iload_n 2, 1) := by decide +kernel
theorem dX0_spread_15 : decode cX0_spread 15 = .ok (.iload_n 2, 1) := by decide +kernel
theorem dX0_spread_16 : decode cX0_spread 16 = .ok (.imul, 1) := by decide +kernel
theorem dX0_spread_17 : decode cX0_spread 17 = .ok (.aload_n 0, 1) := by decide +kernel
theorem dX0_spread_18 : decode cX0_spread 18 = .ok (.getfield 9, 3) := by decide +kernel
theorem dX0_spread_21 : decode cX0_spread 21 = .ok (.iload_n 2, 1) := by decide +kernel
theorem dX0_spread_22 : decode cX0_spread 22 = .ok (.iaload, 1) := by decide +kernel
theorem dX0_spread_23 : decode cX0_spread 23 = .ok (.imul, 1) := by decide +kernel
theorem dX0_spread_24 : decode cX0_spread 24 = .ok (.iadd, 1) := by decide +kernel
theorem dX0_spread_25 : decode cX0_spread 25 = .ok (.istore_n 1, 1) := by decide +kernel
theorem dX0_spread_26 : decode cX0_spread 26 = .ok (.iinc 2 1, 3) := by decide +kernel
theorem dX0_spread_29 : decode cX0_spread 29 = .ok (.goto (-25), 3) := by decide +kernel
theorem dX0_spread_32 : decode cX0_spread 32 = .ok (.sipush 1000, 3) := by decide +kernel
theorem dX0_spread_35 : decode cX0_spread 35 = .ok (.iload_n 1, 1) := by decide +kernel
theorem dX0_spread_36 : decode cX0_spread 36 = .ok (.imul, 1) := by decide +kernel
theorem dX0_spread_37 : decode cX0_spread 37 = .ok (.aload_n 0, 1) := by decide +kernel
theorem dX0_spread_38 : decode cX0_spread 38 = .ok (.invokevirtual 25, 3) := by decide +kernel
theorem dX0_spread_41 : decode cX0_spread 41 = .ok (.aload_n 0, 1) := by decide +kernel
theorem dX0_spread_42 : decode cX0_spread 42 = .ok (.invokevirtual 25, 3) := by decide +kernel
theorem dX0_spread_45 : decode cX0_spread 45 = .ok (.imul, 1) := by decide +kernel
theorem dX0_spread_46 : decode cX0_spread 46 = .ok (.isub, 1) := by decide +kernel
theorem dX0_spread_47 : decode cX0_spread 47 = .ok (.ireturn, 1) := by decide +kernel
theorem dX1_init_0 : decode cX1_init 0 = .ok (.aload_n 0, 1) := by decide +kernel
theorem dX1_init_1 : decode cX1_init 1 = .ok (.invokespecial 3, 3) := by decide +kernel
theorem dX1_init_4 : decode cX1_init 4 = .ok (.aload_n 0, 1) := by decide +kernel
theorem dX1_init_5 : decode cX1_init 5 = .ok (.bipush 41, 2) := by decide +kernel
theorem dX1_init_7 : decode cX1_init 7 = .ok (.newarray .long, 2) := by decide +kernel
theorem dX1_init_9 : decode cX1_init 9 = .ok (.putfield 9, 3) := by decide +kernel
theorem dX1_init_12 : decode cX1_init 12 = .ok (.aload_n 0, 1) := by decide +kernel
theorem dX1_init_13 : decode cX1_init 13 = .ok (.iconst 0, 1) := by decide +kernel
theorem dX1_init_14 : decode cX1_init 14 = .ok (.putfield 15, 3) := by decide +kernel
theorem dX1_init_17 : decode cX1_init 17 = .ok (.aload_n 0, 1) := by decide +kernel
theorem dX1_init_18 : decode cX1_init 18 = .ok (.ldc2_w 19, 3) := by decide +kernel
theorem dX1_init_21 : decode cX1_init 21 = .ok (.putfield 21, 3) := by decide +kernel
theorem dX1_init_24 : decode cX1_init 24 = .ok (.aload_n 0, 1) := by decide +kernel
theorem dX1_init_25 : decode cX1_init 25 = .ok (.iconst 3, 1) := by decide +kernel
theorem dX1_init_26 : decode cX1_init 26 = .ok (.putfield 25, 3) := by decide +kernel
theorem dX1_init_29 : decode cX1_init 29 = .ok (.return_, 1) := by decide +kernel
theorem dX1_loadOne_0 : decode cX1_loadOne 0 = .ok (.aload_n 0, 1) := by decide +kernel
theorem dX1_loadOne_1 : decode cX1_loadOne 1 = .ok (.ldc2_w 19, 3) := by decide +kernel
theorem dX1_loadOne_4 : decode cX1_loadOne 4 = .ok (.iconst 3, 1) := by decide +kernel
theorem dX1_loadOne_5 : decode cX1_loadOne 5 = .ok (.invokevirtual 28, 3) := by decide +kernel
theorem dX1_loadOne_8 : decode cX1_loadOne 8 = .ok (.iconst 0, 1) := by decide +kernel
theorem dX1_loadOne_9 : decode cX1_loadOne 9 = .ok (.istore_n 3, 1) := by decide +kernel
theorem dX1_loadOne_10 : decode cX1_loadOne 10 = .ok (.iload_n 3, 1) := by decide +kernel
theorem dX1_loadOne_11 : decode cX1_loadOne 11 = .ok (.bipush 20, 2) := by decide +kernel
theorem dX1_loadOne_13 : decode cX1_loadOne 13 = .ok (.if_icmp .gt 23, 3) := by decide +kernel
theorem dX1_loadOne_16 : decode cX1_loadOne 16 = .ok (.aload_n 0, 1) := by decide +kernel
theorem dX1_loadOne_17 : decode cX1_loadOne 17 = .ok (.iload_n 3, 1) := by decide +kernel
theorem dX1_loadOne_18 : decode cX1_loadOne 18 = .ok (.iload_n 2, 1) := by decide +kernel
theorem dX1_loadOne_19 : decode cX1_loadOne 19 = .ok (.i2l, 1) := by decide +kernel
theorem dX1_loadOne_20 : decode cX1_loadOne 20 = .ok (.aload_n 1, 1) := by decide +kernel
theorem dX1_loadOne_21 : decode cX1_loadOne 21 = .ok (.iload_n 3, 1) := by decide +kernel
theorem dX1_loadOne_22 : decode cX1_loadOne 22 = .ok (.invokevirtual 32, 3) := by decide +kernel
theorem dX1_loadOne_25 : decode cX1_loadOne 25 = .ok (.i2l, 1) := by decide +kernel
theorem dX1_loadOne_26 : decode cX1_loadOne 26 = .ok (.lmul, 1) := by decide +kernel
theorem dX1_loadOne_27 : decode cX1_loadOne 27 = .ok (.invokevirtual 38, 3) := by decide +kernel
theorem dX1_loadOne_30 : decode cX1_loadOne 30 = .ok (.iinc 3 1, 3) := by decide +kernel
theorem dX1_loadOne_33 : decode cX1_loadOne 33 = .ok (.goto (-23), 3) := by decide +kernel
theorem dX1_loadOne_36 : decode cX1_loadOne 36 = .ok (.return_, 1) := by decide +kernel
theorem dX1_loadBoth_0 : decode cX1_loadBoth 0 = .ok (.aload_n 0, 1) := by decide +kernel
theorem dX1_loadBoth_1 : decode cX1_loadBoth 1 = .ok (.ldc2_w 42, 3) := by decide +kernel
theorem dX1_loadBoth_4 : decode cX1_loadBoth 4 = .ok (.bipush 6, 2) := by decide +kernel
theorem dX1_loadBoth_6 : decode cX1_loadBoth 6 = .ok (.invokevirtual 28, 3) := by decide +kernel
theorem dX1_loadBoth_9 : decode cX1_loadBoth 9 = .ok (.iconst 0, 1) := by decide +kernel
theorem dX1_loadBoth_10 : decode cX1_loadBoth 10 = .ok (.istore_n 3, 1) := by decide +kernel
theorem dX1_loadBoth_11 : decode cX1_loadBoth 11 = .ok (.iload_n 3, 1) := by decide +kernel
theorem dX1_loadBoth_12 : decode cX1_loadBoth 12 = .ok (.bipush 20, 2) := by decide +kernel
theorem dX1_loadBoth_14 : decode cX1_loadBoth 14 = .ok (.if_icmp .gt 47, 3) := by decide +kernel
theorem dX1_loadBoth_17 : decode cX1_loadBoth 17 = .ok (.iconst 0, 1) := by decide +kernel
theorem dX1_loadBoth_18 : decode cX1_loadBoth 18 = .ok (.istore 4, 2) := by decide +kernel
theorem dX1_loadBoth_20 : decode cX1_loadBoth 20 = .ok (.iload 4, 2) := by decide +kernel
theorem dX1_loadBoth_22 : decode cX1_loadBoth 22 = .ok (.bipush 20, 2) := by decide +kernel
theorem dX1_loadBoth_24 : decode cX1_loadBoth 24 = .ok (.if_icmp .gt 31, 3) := by decide +kernel
theorem dX1_loadBoth_27 : decode cX1_loadBoth 27 = .ok (.aload_n 0, 1) := by decide +kernel
theorem dX1_loadBoth_28 : decode cX1_loadBoth 28 = .ok (.iload_n 3, 1) := by decide +kernel
theorem dX1_loadBoth_29 : decode cX1_loadBoth 29 = .ok (.iload 4, 2) := by decide +kernel
theorem dX1_loadBoth_31 : decode cX1_loadBoth 31 = .ok (.iadd, 1) := by decide +kernel
theorem dX1_loadBoth_32 : decode cX1_loadBoth 32 = .ok (.aload_n 1, 1) := by decide +kernel
theorem dX1_loadBoth_33 : decode cX1_loadBoth 33 = .ok (.iload_n 3, 1) := by decide +kernel
theorem dX1_loadBoth_34 : decode cX1_loadBoth 34 = .ok (.invokevirtual 32, 3) := by decide +kernel
theorem dX1_loadBoth_37 : decode cX1_loadBoth 37 = .ok (.i2l, 1) := by decide +kernel
theorem dX1_loadBoth_38 : decode cX1_loadBoth 38 = .ok (.aload_n 2, 1) := by decide +kernel
theorem dX1_loadBoth_39 : decode cX1_loadBoth 39 = .ok (.iload 4, 2) := by decide +kernel
theorem dX1_loadBoth_41 : decode cX1_loadBoth 41 = .ok (.invokevirtual 32, 3) := by decide +kernel
theorem dX1_loadBoth_44 : decode cX1_loadBoth 44 = .ok (.i2l, 1) := by decide +kernel
theorem dX1_loadBoth_45 : decode cX1_loadBoth 45 = .ok (.lmul, 1) := by decide +kernel
theorem dX1_loadBoth_46 : decode cX1_loadBoth 46 = .ok (.invokevirtual 38, 3) := by decide +kernel
theorem dX1_loadBoth_49 : decode cX1_loadBoth 49 = .ok (.iinc 4 1, 3) := by decide +kernel
theorem dX1_loadBoth_52 : decode cX1_loadBoth 52 = .ok (.goto (-32), 3) := by decide +kernel
theorem dX1_loadBoth_55 : decode cX1_loadBoth 55 = .ok (.iinc 3 1, 3) := by decide +kernel
theorem dX1_loadBoth_58 : decode cX1_loadBoth 58 = .ok (.goto (-47), 3) := by decide +kernel
theorem dX1_loadBoth_61 : decode cX1_loadBoth 61 = .ok (.return_, 1) := by decide +kernel
theorem dX1_empty_0 : decode cX1_empty 0 = .ok (.aload_n 0, 1) := by decide +kernel
theorem dX1_empty_1 : decode cX1_empty 1 = .ok (.getfield 9, 3) := by decide +kernel
theorem dX1_empty_4 : decode cX1_empty 4 = .ok (.lconst 0, 1) := by decide +kernel
theorem dX1_empty_5 : decode cX1_empty 5 = .ok (.invokestatic 44, 3) := by decide +kernel
theorem dX1_empty_8 : decode cX1_empty 8 = .ok (.aload_n 0, 1) := by decide +kernel
theorem dX1_empty_9 : decode cX1_empty 9 = .ok (.iconst 0, 1) := by decide +kernel
theorem dX1_empty_10 : decode cX1_empty 10 = .ok (.putfield 15, 3) := by decide +kernel
theorem dX1_empty_13 : decode cX1_empty 13 = .ok (.aload_n 0, 1) := by decide +kernel
theorem dX1_empty_14 : decode cX1_empty 14 = .ok (.lload_n 1, 1) := by decide +kernel
theorem dX1_empty_15 : decode cX1_empty 15 = .ok (.putfield 21, 3) := by decide +kernel
theorem dX1_empty_18 : decode cX1_empty 18 = .ok (.aload_n 0, 1) := by decide +kernel
theorem dX1_empty_19 : decode cX1_empty 19 = .ok (.iload_n 3, 1) := by decide +kernel
theorem dX1_empty_20 : decode cX1_empty 20 = .ok (.putfield 25, 3) := by decide +kernel
theorem dX1_empty_23 : decode cX1_empty 23 = .ok (.return_, 1) := by decide +kernel
theorem dX1_add_0 : decode cX1_add 0 = .ok (.lload_n 2, 1) := by decide +kernel
theorem dX1_add_1 : decode cX1_add 1 = .ok (.lconst 0, 1) := by decide +kernel
theorem dX1_add_2 : decode cX1_add 2 = .ok (.lcmp, 1) := by decide +kernel
theorem dX1_add_3 : decode cX1_add 3 = .ok (.ifCond .le 38, 3) := by decide +kernel
theorem dX1_add_6 : decode cX1_add 6 = .ok (.iload_n 1, 1) := by decide +kernel
theorem dX1_add_7 : decode cX1_add 7 = .ok (.ifCond .lt 34, 3) := by decide +kernel
theorem dX1_add_10 : decode cX1_add 10 = .ok (.iload_n 1, 1) := by decide +kernel
theorem dX1_add_11 : decode cX1_add 11 = .ok (.aload_n 0, 1) := by decide +kernel
theorem dX1_add_12 : decode cX1_add 12 = .ok (.getfield 9, 3) := by decide +kernel
theorem dX1_add_15 : decode cX1_add 15 = .ok (.arraylength, 1) := by decide +kernel
theorem dX1_add_16 : decode cX1_add 16 = .ok (.if_icmp .ge 25, 3) := by decide +kernel
theorem dX1_add_19 : decode cX1_add 19 = .ok (.aload_n 0, 1) := by decide +kernel
theorem dX1_add_20 : decode cX1_add 20 = .ok (.getfield 9, 3) := by decide +kernel
theorem dX1_add_23 : decode cX1_add 23 = .ok (.iload_n 1, 1) := by decide +kernel
theorem dX1_add_24 : decode cX1_add 24 = .ok (.dup2, 1) := by decide +kernel
theorem dX1_add_25 : decode cX1_add 25 = .ok (.laload, 1) := by decide +kernel
theorem dX1_add_26 : decode cX1_add 26 = .ok (.lload_n 2, 1) := by decide +kernel
theorem dX1_add_27 : decode cX1_add 27 = .ok (.ladd, 1) := by decide +kernel
theorem dX1_add_28 : decode cX1_add 28 = .ok (.lastore, 1) := by decide +kernel
theorem dX1_add_29 : decode cX1_add 29 = .ok (.aload_n 0, 1) := by decide +kernel
theorem dX1_add_30 : decode cX1_add 30 = .ok (.aload_n 0, 1) := by decide +kernel
theorem dX1_add_31 : decode cX1_add 31 = .ok (.getfield 15, 3) := by decide +kernel
theorem dX1_add_34 : decode cX1_add 34 = .ok (.iload_n 1, 1) := by decide +kernel
theorem dX1_add_35 : decode cX1_add 35 = .ok (.invokestatic 50, 3) := by decide +kernel
theorem dX1_add_38 : decode cX1_add 38 = .ok (.putfield 15, 3) := by decide +kernel
theorem dX1_add_41 : decode cX1_add 41 = .ok (.return_, 1) := by decide +kernel
theorem dX1_weight_0 : decode cX1_weight 0 = .ok (.iload_n 1, 1) := by decide +kernel
theorem dX1_weight_1 : decode cX1_weight 1 = .ok (.ifCond .lt 21, 3) := by decide +kernel
theorem dX1_weight_4 : decode cX1_weight 4 = .ok (.iload_n 1, 1) := by decide +kernel
theorem dX1_weight_5 : decode cX1_weight 5 = .ok (.aload_n 0, 1) := by decide +kernel
theorem dX1_weight_6 : decode cX1_weight 6 = .ok (.getfield 9, 3) := by decide +kernel
theorem dX1_weight_9 : decode cX1_weight 9 = .ok (.arraylength, 1) := by decide +kernel
theorem dX1_weight_10 : decode cX1_weight 10 = .ok (.if_icmp .ge 12, 3) := by decide +kernel
theorem dX1_weight_13 : decode cX1_weight 13 = .ok (.aload_n 0, 1) := by decide +kernel
theorem dX1_weight_14 : decode cX1_weight 14 = .ok (.getfield 9, 3) := by decide +kernel
theorem dX1_weight_17 : decode cX1_weight 17 = .ok (.iload_n 1, 1) := by decide +kernel
theorem dX1_weight_18 : decode cX1_weight 18 = .ok (.laload, 1) := by decide +kernel
theorem dX1_weight_19 : decode cX1_weight 19 = .ok (.goto 4, 3) := by decide +kernel
theorem dX1_weight_22 : decode cX1_weight 22 = .ok (.lconst 0, 1) := by decide +kernel
theorem dX1_weight_23 : decode cX1_weight 23 = .ok (.lreturn, 1) := by decide +kernel
theorem dX2_init_0 : decode cX2_init 0 = .ok (.aload_n 0, 1) := by decide +kernel
theorem dX2_init_1 : decode cX2_init 1 = .ok (.invokespecial 3, 3) := by decide +kernel
theorem dX2_init_4 : decode cX2_init 4 = .ok (.aload_n 0, 1) := by decide +kernel
theorem dX2_init_5 : decode cX2_init 5 = .ok (.new 9, 3) := by decide +kernel
theorem dX2_init_8 : decode cX2_init 8 = .ok (.dup, 1) := by decide +kernel
theorem dX2_init_9 : decode cX2_init 9 = .ok (.bipush 61, 2) := by decide +kernel
theorem dX2_init_11 : decode cX2_init 11 = .ok (.bipush 16, 2) := by decide +kernel
theorem dX2_init_13 : decode cX2_init 13 = .ok (.invokespecial 11, 3) := by decide +kernel
theorem dX2_init_16 : decode cX2_init 16 = .ok (.putfield 14, 3) := by decide +kernel
theorem dX2_init_19 : decode cX2_init 19 = .ok (.aload_n 0, 1) := by decide +kernel
theorem dX2_init_20 : decode cX2_init 20 = .ok (.new 9, 3) := by decide +kernel
theorem dX2_init_23 : decode cX2_init 23 = .ok (.dup, 1) := by decide +kernel
theorem dX2_init_24 : decode cX2_init 24 = .ok (.iconst 1, 1) := by decide +kernel
theorem dX2_init_25 : decode cX2_init 25 = .ok (.bipush 16, 2) := by decide +kernel
theorem dX2_init_27 : decode cX2_init 27 = .ok (.invokespecial 11, 3) := by decide +kernel
theorem dX2_init_30 : decode cX2_init 30 = .ok (.putfield 20, 3) := by decide +kernel
theorem dX2_init_33 : decode cX2_init 33 = .ok (.aload_n 0, 1) := by decide +kernel
theorem dX2_init_34 : decode cX2_init 34 = .ok (.new 9, 3) := by decide +kernel
theorem dX2_init_37 : decode cX2_init 37 = .ok (.dup, 1) := by decide +kernel
theorem dX2_init_38 : decode cX2_init 38 = .ok (.iconst 1, 1) := by decide +kernel
theorem dX2_init_39 : decode cX2_init 39 = .ok (.bipush 16, 2) := by decide +kernel
theorem dX2_init_41 : decode cX2_init 41 = .ok (.invokespecial 11, 3) := by decide +kernel
theorem dX2_init_44 : decode cX2_init 44 = .ok (.putfield 23, 3) := by decide +kernel
theorem dX2_init_47 : decode cX2_init 47 = .ok (.aload_n 0, 1) := by decide +kernel
theorem dX2_init_48 : decode cX2_init 48 = .ok (.new 9, 3) := by decide +kernel
theorem dX2_init_51 : decode cX2_init 51 = .ok (.dup, 1) := by decide +kernel
theorem dX2_init_52 : decode cX2_init 52 = .ok (.iconst 1, 1) := by decide +kernel
theorem dX2_init_53 : decode cX2_init 53 = .ok (.bipush 16, 2) := by decide +kernel
theorem dX2_init_55 : decode cX2_init 55 = .ok (.invokespecial 11, 3) := by decide +kernel
theorem dX2_init_58 : decode cX2_init 58 = .ok (.putfield 26, 3) := by decide +kernel
theorem dX2_init_61 : decode cX2_init 61 = .ok (.return_, 1) := by decide +kernel
theorem dX2_work_0 : decode cX2_work 0 = .ok (.aload_n 0, 1) := by decide +kernel
theorem dX2_work_1 : decode cX2_work 1 = .ok (.getfield 14, 3) := by decide +kernel
theorem dX2_work_4 : decode cX2_work 4 = .ok (.iconst 0, 1) := by decide +kernel
theorem dX2_work_5 : decode cX2_work 5 = .ok (.sipush 1000, 3) := by decide +kernel
theorem dX2_work_8 : decode cX2_work 8 = .ok (.aload_n 1, 1) := by decide +kernel
theorem dX2_work_9 : decode cX2_work 9 = .ok (.invokevirtual 29, 3) := by decide +kernel
theorem dX2_work_12 : decode cX2_work 12 = .ok (.isub, 1) := by decide +kernel
theorem dX2_work_13 : decode cX2_work 13 = .ok (.i2l, 1) := by decide +kernel
theorem dX2_work_14 : decode cX2_work 14 = .ok (.invokevirtual 35, 3) := by decide +kernel
theorem dX2_work_17 : decode cX2_work 17 = .ok (.aload_n 0, 1) := by decide +kernel
theorem dX2_work_18 : decode cX2_work 18 = .ok (.getfield 23, 3) := by decide +kernel
theorem dX2_work_21 : decode cX2_work 21 = .ok (.iconst 0, 1) := by decide +kernel
theorem dX2_work_22 : decode cX2_work 22 = .ok (.aload_n 1, 1) := by decide +kernel
theorem dX2_work_23 : decode cX2_work 23 = .ok (.iconst 0, 1) := by decide +kernel
theorem dX2_work_24 : decode cX2_work 24 = .ok (.invokevirtual 39, 3) := by decide +kernel
theorem dX2_work_27 : decode cX2_work 27 = .ok (.i2l, 1) := by decide +kernel
theorem dX2_work_28 : decode cX2_work 28 = .ok (.invokevirtual 35, 3) := by decide +kernel
theorem dX2_work_31 : decode cX2_work 31 = .ok (.iconst 1, 1) := by decide +kernel
theorem dX2_work_32 : decode cX2_work 32 = .ok (.istore_n 3, 1) := by decide +kernel
theorem dX2_work_33 : decode cX2_work 33 = .ok (.iload_n 3, 1) := by decide +kernel
theorem dX2_work_34 : decode cX2_work 34 = .ok (.iload_n 2, 1) := by decide +kernel
theorem dX2_work_35 : decode cX2_work 35 = .ok (.if_icmp .gt 75, 3) := by decide +kernel
theorem dX2_work_38 : decode cX2_work 38 = .ok (.aload_n 0, 1) := by decide +kernel
theorem dX2_work_39 : decode cX2_work 39 = .ok (.aload_n 1, 1) := by decide +kernel
theorem dX2_work_40 : decode cX2_work 40 = .ok (.iload_n 3, 1) := by decide +kernel
theorem dX2_work_41 : decode cX2_work 41 = .ok (.invokevirtual 43, 3) := by decide +kernel
theorem dX2_work_44 : decode cX2_work 44 = .ok (.aload_n 0, 1) := by decide +kernel
theorem dX2_work_45 : decode cX2_work 45 = .ok (.getfield 14, 3) := by decide +kernel
theorem dX2_work_48 : decode cX2_work 48 = .ok (.iload_n 3, 1) := by decide +kernel
theorem dX2_work_49 : decode cX2_work 49 = .ok (.lconst 0, 1) := by decide +kernel
theorem dX2_work_50 : decode cX2_work 50 = .ok (.invokevirtual 35, 3) := by decide +kernel
theorem dX2_work_53 : decode cX2_work 53 = .ok (.aload_n 0, 1) := by decide +kernel
theorem dX2_work_54 : decode cX2_work 54 = .ok (.getfield 14, 3) := by decide +kernel
theorem dX2_work_57 : decode cX2_work 57 = .ok (.iload_n 3, 1) := by decide +kernel
theorem dX2_work_58 : decode cX2_work 58 = .ok (.lconst 1, 1) := by decide +kernel
theorem dX2_work_59 : decode cX2_work 59 = .ok (.aload_n 0, 1) := by decide +kernel
theorem dX2_work_60 : decode cX2_work 60 = .ok (.getfield 14, 3) := by decide +kernel
theorem dX2_work_63 : decode cX2_work 63 = .ok (.iload_n 3, 1) := by decide +kernel
theorem dX2_work_64 : decode cX2_work 64 = .ok (.iconst 1, 1) := by decide +kernel
theorem dX2_work_65 : decode cX2_work 65 = .ok (.isub, 1) := by decide +kernel
theorem dX2_work_66 : decode cX2_work 66 = .ok (.ldc2_w 47, 3) := by decide +kernel
theorem dX2_work_69 : decode cX2_work 69 = .ok (.invokevirtual 49, 3) := by decide +kernel
theorem dX2_work_72 : decode cX2_work 72 = .ok (.aload_n 0, 1) := by decide +kernel
theorem dX2_work_73 : decode cX2_work 73 = .ok (.getfield 14, 3) := by decide +kernel
theorem dX2_work_76 : decode cX2_work 76 = .ok (.iload_n 3, 1) := by decide +kernel
theorem dX2_work_77 : decode cX2_work 77 = .ok (.lconst 1, 1) := by decide +kernel
theorem dX2_work_78 : decode cX2_work 78 = .ok (.aload_n 0, 1) := by decide +kernel
theorem dX2_work_79 : decode cX2_work 79 = .ok (.getfield 20, 3) := by decide +kernel
theorem dX2_work_82 : decode cX2_work 82 = .ok (.iconst 0, 1) := by decide +kernel
theorem dX2_work_83 : decode cX2_work 83 = .ok (.ldc2_w 53, 3) := by decide +kernel
theorem dX2_work_86 : decode cX2_work 86 = .ok (.invokevirtual 49, 3) := by decide +kernel
theorem dX2_work_89 : decode cX2_work 89 = .ok (.aload_n 0, 1) := by decide +kernel
theorem dX2_work_90 : decode cX2_work 90 = .ok (.getfield 23, 3) := by decide +kernel
theorem dX2_work_93 : decode cX2_work 93 = .ok (.iconst 0, 1) := by decide +kernel
theorem dX2_work_94 : decode cX2_work 94 = .ok (.aload_n 1, 1) := by decide +kernel
theorem dX2_work_95 : decode cX2_work 95 = .ok (.iconst 0, 1) := by decide +kernel
theorem dX2_work_96 : decode cX2_work 96 = .ok (.invokevirtual 39, 3) := by decide +kernel
theorem dX2_work_99 : decode cX2_work 99 = .ok (.i2l, 1) := by decide +kernel
theorem dX2_work_100 : decode cX2_work 100 = .ok (.lconst 0, 1) := by decide +kernel
theorem dX2_work_101 : decode cX2_work 101 = .ok (.invokevirtual 55, 3) := by decide +kernel
theorem dX2_work_104 : decode cX2_work 104 = .ok (.iinc 3 1, 3) := by decide +kernel
theorem dX2_work_107 : decode cX2_work 107 = .ok (.goto (-74), 3) := by decide +kernel
theorem dX2_work_110 : decode cX2_work 110 = .ok (.aload_n 0, 1) := by decide +kernel
theorem dX2_work_111 : decode cX2_work 111 = .ok (.getfield 26, 3) := by decide +kernel
theorem dX2_work_114 : decode cX2_work 114 = .ok (.iconst 0, 1) := by decide +kernel
theorem dX2_work_115 : decode cX2_work 115 = .ok (.aload_n 0, 1) := by decide +kernel
theorem dX2_work_116 : decode cX2_work 116 = .ok (.getfield 23, 3) := by decide +kernel
theorem dX2_work_119 : decode cX2_work 119 = .ok (.iconst 0, 1) := by decide +kernel
theorem dX2_work_120 : decode cX2_work 120 = .ok (.invokevirtual 59, 3) := by decide +kernel
theorem dX2_work_123 : decode cX2_work 123 = .ok (.aload_n 0, 1) := by decide +kernel
theorem dX2_work_124 : decode cX2_work 124 = .ok (.getfield 26, 3) := by decide +kernel
theorem dX2_work_127 : decode cX2_work 127 = .ok (.iconst 0, 1) := by decide +kernel
theorem dX2_work_128 : decode cX2_work 128 = .ok (.lconst 1, 1) := by decide +kernel
theorem dX2_work_129 : decode cX2_work 129 = .ok (.aload_n 0, 1) := by decide +kernel
theorem dX2_work_130 : decode cX2_work 130 = .ok (.getfield 14, 3) := by decide +kernel
theorem dX2_work_133 : decode cX2_work 133 = .ok (.iload_n 2, 1) := by decide +kernel
theorem dX2_work_134 : decode cX2_work 134 = .ok (.ldc2_w 53, 3) := by decide +kernel
theorem dX2_work_137 : decode cX2_work 137 = .ok (.invokevirtual 49, 3) := by decide +kernel
theorem dX2_work_140 : decode cX2_work 140 = .ok (.return_, 1) := by decide +kernel
theorem dX2_sumUp_0 : decode cX2_sumUp 0 = .ok (.aload_n 0, 1) := by decide +kernel
theorem dX2_sumUp_1 : decode cX2_sumUp 1 = .ok (.getfield 20, 3) := by decide +kernel
theorem dX2_sumUp_4 : decode cX2_sumUp 4 = .ok (.iconst 0, 1) := by decide +kernel
theorem dX2_sumUp_5 : decode cX2_sumUp 5 = .ok (.lconst 0, 1) := by decide +kernel
theorem dX2_sumUp_6 : decode cX2_sumUp 6 = .ok (.invokevirtual 35, 3) := by decide +kernel
theorem dX2_sumUp_9 : decode cX2_sumUp 9 = .ok (.iload_n 2, 1) := by decide +kernel
theorem dX2_sumUp_10 : decode cX2_sumUp 10 = .ok (.bipush 20, 2) := by decide +kernel
theorem dX2_sumUp_12 : decode cX2_sumUp 12 = .ok (.invokestatic 63, 3) := by decide +kernel
theorem dX2_sumUp_15 : decode cX2_sumUp 15 = .ok (.istore_n 3, 1) := by decide +kernel
theorem dX2_sumUp_16 : decode cX2_sumUp 16 = .ok (.iload_n 3, 1) := by decide +kernel
theorem dX2_sumUp_17 : decode cX2_sumUp 17 = .ok (.iconst 1, 1) := by decide +kernel
theorem dX2_sumUp_18 : decode cX2_sumUp 18 = .ok (.if_icmp .lt 36, 3) := by decide +kernel
theorem dX2_sumUp_21 : decode cX2_sumUp 21 = .ok (.aload_n 0, 1) := by decide +kernel
theorem dX2_sumUp_22 : decode cX2_sumUp 22 = .ok (.getfield 20, 3) := by decide +kernel
theorem dX2_sumUp_25 : decode cX2_sumUp 25 = .ok (.iconst 0, 1) := by decide +kernel
theorem dX2_sumUp_26 : decode cX2_sumUp 26 = .ok (.aload_n 1, 1) := by decide +kernel
theorem dX2_sumUp_27 : decode cX2_sumUp 27 = .ok (.iconst 0, 1) := by decide +kernel
theorem dX2_sumUp_28 : decode cX2_sumUp 28 = .ok (.invokevirtual 39, 3) := by decide +kernel
theorem dX2_sumUp_31 : decode cX2_sumUp 31 = .ok (.i2l, 1) := by decide +kernel
theorem dX2_sumUp_32 : decode cX2_sumUp 32 = .ok (.aload_n 0, 1) := by decide +kernel
theorem dX2_sumUp_33 : decode cX2_sumUp 33 = .ok (.getfield 14, 3) := by decide +kernel
theorem dX2_sumUp_36 : decode cX2_sumUp 36 = .ok (.iload_n 2, 1) := by decide +kernel
theorem dX2_sumUp_37 : decode cX2_sumUp 37 = .ok (.iload_n 3, 1) := by decide +kernel
theorem dX2_sumUp_38 : decode cX2_sumUp 38 = .ok (.isub, 1) := by decide +kernel
theorem dX2_sumUp_39 : decode cX2_sumUp 39 = .ok (.aload_n 1, 1) := by decide +kernel
theorem dX2_sumUp_40 : decode cX2_sumUp 40 = .ok (.iload_n 3, 1) := by decide +kernel
theorem dX2_sumUp_41 : decode cX2_sumUp 41 = .ok (.invokevirtual 39, 3) := by decide +kernel
theorem dX2_sumUp_44 : decode cX2_sumUp 44 = .ok (.i2l, 1) := by decide +kernel
theorem dX2_sumUp_45 : decode cX2_sumUp 45 = .ok (.invokevirtual 49, 3) := by decide +kernel
theorem dX2_sumUp_48 : decode cX2_sumUp 48 = .ok (.iinc 3 (-1), 3) := by decide +kernel
theorem dX2_sumUp_51 : decode cX2_sumUp 51 = .ok (.goto (-35), 3) := by decide +kernel
theorem dX2_sumUp_54 : decode cX2_sumUp 54 = .ok (.return_, 1) := by decide +kernel
theorem dX2_nextFigure_0 : decode cX2_nextFigure 0 = .ok (.aload_n 0, 1) := by decide +kernel
theorem dX2_nextFigure_1 : decode cX2_nextFigure 1 = .ok (.getfield 26, 3) := by decide +kernel
theorem dX2_nextFigure_4 : decode cX2_nextFigure 4 = .ok (.iconst 0, 1) := by decide +kernel
theorem dX2_nextFigure_5 : decode cX2_nextFigure 5 = .ok (.ldc2_w 69, 3) := by decide +kernel
theorem dX2_nextFigure_8 : decode cX2_nextFigure 8 = .ok (.lconst 0, 1) := by decide +kernel
theorem dX2_nextFigure_9 : decode cX2_nextFigure 9 = .ok (.invokevirtual 55, 3) := by decide +kernel
theorem dX2_nextFigure_12 : decode cX2_nextFigure 12 = .ok (.lconst 0, 1) := by decide +kernel
theorem dX2_nextFigure_13 : decode cX2_nextFigure 13 = .ok (.lstore_n 1, 1) := by decide +kernel
theorem dX2_nextFigure_14 : decode cX2_nextFigure 14 = .ok (.iconst 0, 1) := by decide +kernel
theorem dX2_nextFigure_15 : decode cX2_nextFigure 15 = .ok (.istore_n 3, 1) := by decide +kernel
theorem dX2_nextFigure_16 : decode cX2_nextFigure 16 = .ok (.iload_n 3, 1) := by decide +kernel
theorem dX2_nextFigure_17 : decode cX2_nextFigure 17 = .ok (.bipush 9, 2) := by decide +kernel
theorem dX2_nextFigure_19 : decode cX2_nextFigure 19 = .ok (.if_icmp .ge 46, 3) := by decide +kernel
theorem dX2_nextFigure_22 : decode cX2_nextFigure 22 = .ok (.aload_n 0, 1) := by decide +kernel
theorem dX2_nextFigure_23 : decode cX2_nextFigure 23 = .ok (.getfield 26, 3) := by decide +kernel
theorem dX2_nextFigure_26 : decode cX2_nextFigure 26 = .ok (.iconst 0, 1) := by decide +kernel
theorem dX2_nextFigure_27 : decode cX2_nextFigure 27 = .ok (.aload_n 0, 1) := by decide +kernel
theorem dX2_nextFigure_28 : decode cX2_nextFigure 28 = .ok (.getfield 23, 3) := by decide +kernel
theorem dX2_nextFigure_31 : decode cX2_nextFigure 31 = .ok (.iconst 0, 1) := by decide +kernel
theorem dX2_nextFigure_32 : decode cX2_nextFigure 32 = .ok (.invokevirtual 71, 3) := by decide +kernel
theorem dX2_nextFigure_35 : decode cX2_nextFigure 35 = .ok (.ifCond .lt 30, 3) := by decide +kernel
theorem dX2_nextFigure_38 : decode cX2_nextFigure 38 = .ok (.aload_n 0, 1) := by decide +kernel
theorem dX2_nextFigure_39 : decode cX2_nextFigure 39 = .ok (.getfield 26, 3) := by decide +kernel
theorem dX2_nextFigure_42 : decode cX2_nextFigure 42 = .ok (.iconst 0, 1) := by decide +kernel
theorem dX2_nextFigure_43 : decode cX2_nextFigure 43 = .ok (.lconst 1, 1) := by decide +kernel
theorem dX2_nextFigure_44 : decode cX2_nextFigure 44 = .ok (.aload_n 0, 1) := by decide +kernel
theorem dX2_nextFigure_45 : decode cX2_nextFigure 45 = .ok (.getfield 23, 3) := by decide +kernel
theorem dX2_nextFigure_48 : decode cX2_nextFigure 48 = .ok (.iconst 0, 1) := by decide +kernel
theorem dX2_nextFigure_49 : decode cX2_nextFigure 49 = .ok (.ldc2_w 53, 3) := by decide +kernel
theorem dX2_nextFigure_52 : decode cX2_nextFigure 52 = .ok (.invokevirtual 49, 3) := by decide +kernel
theorem dX2_nextFigure_55 : decode cX2_nextFigure 55 = .ok (.lload_n 1, 1) := by decide +kernel
theorem dX2_nextFigure_56 : decode cX2_nextFigure 56 = .ok (.lconst 1, 1) := by decide +kernel
theorem dX2_nextFigure_57 : decode cX2_nextFigure 57 = .ok (.ladd, 1) := by decide +kernel
theorem dX2_nextFigure_58 : decode cX2_nextFigure 58 = .ok (.lstore_n 1, 1) := by decide +kernel
theorem dX2_nextFigure_59 : decode cX2_nextFigure 59 = .ok (.iinc 3 1, 3) := by decide +kernel
theorem dX2_nextFigure_62 : decode cX2_nextFigure 62 = .ok (.goto (-46), 3) := by decide +kernel
theorem dX2_nextFigure_65 : decode cX2_nextFigure 65 = .ok (.lload_n 1, 1) := by decide +kernel
theorem dX2_nextFigure_66 : decode cX2_nextFigure 66 = .ok (.lreturn, 1) := by decide +kernel
theorem dX3_init_0 : decode cX3_init 0 = .ok (.aload_n 0, 1) := by decide +kernel
theorem dX3_init_1 : decode cX3_init 1 = .ok (.invokespecial 3, 3) := by decide +kernel
theorem dX3_init_4 : decode cX3_init 4 = .ok (.aload_n 0, 1) := by decide +kernel
theorem dX3_init_5 : decode cX3_init 5 = .ok (.new 9, 3) := by decide +kernel
theorem dX3_init_8 : decode cX3_init 8 = .ok (.dup, 1) := by decide +kernel
theorem dX3_init_9 : decode cX3_init 9 = .ok (.invokespecial 11, 3) := by decide +kernel
theorem dX3_init_12 : decode cX3_init 12 = .ok (.putfield 12, 3) := by decide +kernel
theorem dX3_init_15 : decode cX3_init 15 = .ok (.aload_n 0, 1) := by decide +kernel
theorem dX3_init_16 : decode cX3_init 16 = .ok (.new 18, 3) := by decide +kernel
theorem dX3_init_19 : decode cX3_init 19 = .ok (.dup, 1) := by decide +kernel
theorem dX3_init_20 : decode cX3_init 20 = .ok (.iconst 1, 1) := by decide +kernel
theorem dX3_init_21 : decode cX3_init 21 = .ok (.iconst 4, 1) := by decide +kernel
theorem dX3_init_22 : decode cX3_init 22 = .ok (.invokespecial 20, 3) := by decide +kernel
theorem dX3_init_25 : decode cX3_init 25 = .ok (.putfield 23, 3) := by decide +kernel
theorem dX3_init_28 : decode cX3_init 28 = .ok (.aload_n 0, 1) := by decide +kernel
theorem dX3_init_29 : decode cX3_init 29 = .ok (.new 18, 3) := by decide +kernel
theorem dX3_init_32 : decode cX3_init 32 = .ok (.dup, 1) := by decide +kernel
theorem dX3_init_33 : decode cX3_init 33 = .ok (.iconst 1, 1) := by decide +kernel
theorem dX3_init_34 : decode cX3_init 34 = .ok (.iconst 4, 1) := by decide +kernel
theorem dX3_init_35 : decode cX3_init 35 = .ok (.invokespecial 20, 3) := by decide +kernel
theorem dX3_init_38 : decode cX3_init 38 = .ok (.putfield 27, 3) := by decide +kernel
theorem dX3_init_41 : decode cX3_init 41 = .ok (.aload_n 0, 1) := by decide +kernel
theorem dX3_init_42 : decode cX3_init 42 = .ok (.new 18, 3) := by decide +kernel
theorem dX3_init_45 : decode cX3_init 45 = .ok (.dup, 1) := by decide +kernel
theorem dX3_init_46 : decode cX3_init 46 = .ok (.sipush 181, 3) := by decide +kernel
theorem dX3_init_49 : decode cX3_init 49 = .ok (.iconst 4, 1) := by decide +kernel
theorem dX3_init_50 : decode cX3_init 50 = .ok (.invokespecial 20, 3) := by decide +kernel
theorem dX3_init_53 : decode cX3_init 53 = .ok (.putfield 30, 3) := by decide +kernel
theorem dX3_init_56 : decode cX3_init 56 = .ok (.aload_n 0, 1) := by decide +kernel
theorem dX3_init_57 : decode cX3_init 57 = .ok (.new 18, 3) := by decide +kernel
theorem dX3_init_60 : decode cX3_init 60 = .ok (.dup, 1) := by decide +kernel
theorem dX3_init_61 : decode cX3_init 61 = .ok (.sipush 181, 3) := by decide +kernel
theorem dX3_init_64 : decode cX3_init 64 = .ok (.iconst 4, 1) := by decide +kernel
theorem dX3_init_65 : decode cX3_init 65 = .ok (.invokespecial 20, 3) := by decide +kernel
theorem dX3_init_68 : decode cX3_init 68 = .ok (.putfield 33, 3) := by decide +kernel
theorem dX3_init_71 : decode cX3_init 71 = .ok (.return_, 1) := by decide +kernel
theorem dX3_work_0 : decode cX3_work 0 = .ok (.iload_n 1, 1) := by decide +kernel
theorem dX3_work_1 : decode cX3_work 1 = .ok (.istore 4, 2) := by decide +kernel
theorem dX3_work_3 : decode cX3_work 3 = .ok (.aload_n 0, 1) := by decide +kernel
theorem dX3_work_4 : decode cX3_work 4 = .ok (.getfield 23, 3) := by decide +kernel
theorem dX3_work_7 : decode cX3_work 7 = .ok (.iconst 0, 1) := by decide +kernel
theorem dX3_work_8 : decode cX3_work 8 = .ok (.lconst 1, 1) := by decide +kernel
theorem dX3_work_9 : decode cX3_work 9 = .ok (.invokevirtual 36, 3) := by decide +kernel
theorem dX3_work_12 : decode cX3_work 12 = .ok (.aload_n 0, 1) := by decide +kernel
theorem dX3_work_13 : decode cX3_work 13 = .ok (.getfield 30, 3) := by decide +kernel
theorem dX3_work_16 : decode cX3_work 16 = .ok (.iload_n 1, 1) := by decide +kernel
theorem dX3_work_17 : decode cX3_work 17 = .ok (.iload_n 3, 1) := by decide +kernel
theorem dX3_work_18 : decode cX3_work 18 = .ok (.iload_n 2, 1) := by decide +kernel
theorem dX3_work_19 : decode cX3_work 19 = .ok (.imul, 1) := by decide +kernel
theorem dX3_work_20 : decode cX3_work 20 = .ok (.iadd, 1) := by decide +kernel
theorem dX3_work_21 : decode cX3_work 21 = .ok (.iconst 1, 1) := by decide +kernel
theorem dX3_work_22 : decode cX3_work 22 = .ok (.iadd, 1) := by decide +kernel
theorem dX3_work_23 : decode cX3_work 23 = .ok (.invokevirtual 40, 3) := by decide +kernel
theorem dX3_work_26 : decode cX3_work 26 = .ok (.iconst 0, 1) := by decide +kernel
theorem dX3_work_27 : decode cX3_work 27 = .ok (.istore 5, 2) := by decide +kernel
theorem dX3_work_29 : decode cX3_work 29 = .ok (.iload 5, 2) := by decide +kernel
theorem dX3_work_31 : decode cX3_work 31 = .ok (.aload_n 0, 1) := by decide +kernel
theorem dX3_work_32 : decode cX3_work 32 = .ok (.getfield 30, 3) := by decide +kernel
theorem dX3_work_35 : decode cX3_work 35 = .ok (.getfield 44, 3) := by decide +kernel
theorem dX3_work_38 : decode cX3_work 38 = .ok (.if_icmp .ge 21, 3) := by decide +kernel
theorem dX3_work_41 : decode cX3_work 41 = .ok (.aload_n 0, 1) := by decide +kernel
theorem dX3_work_42 : decode cX3_work 42 = .ok (.getfield 30, 3) := by decide +kernel
theorem dX3_work_45 : decode cX3_work 45 = .ok (.iload 5, 2) := by decide +kernel
theorem dX3_work_47 : decode cX3_work 47 = .ok (.iload 5, 2) := by decide +kernel
theorem dX3_work_49 : decode cX3_work 49 = .ok (.i2l, 1) := by decide +kernel
theorem dX3_work_50 : decode cX3_work 50 = .ok (.invokevirtual 36, 3) := by decide +kernel
theorem dX3_work_53 : decode cX3_work 53 = .ok (.iinc 5 1, 3) := by decide +kernel
theorem dX3_work_56 : decode cX3_work 56 = .ok (.goto (-27), 3) := by decide +kernel
theorem dX3_work_59 : decode cX3_work 59 = .ok (.iconst 1, 1) := by decide +kernel
theorem dX3_work_60 : decode cX3_work 60 = .ok (.istore 5, 2) := by decide +kernel
theorem dX3_work_62 : decode cX3_work 62 = .ok (.iload 5, 2) := by decide +kernel
theorem dX3_work_64 : decode cX3_work 64 = .ok (.iload_n 3, 1) := by decide +kernel
theorem dX3_work_65 : decode cX3_work 65 = .ok (.if_icmp .gt 36, 3) := by decide +kernel
theorem dX3_work_68 : decode cX3_work 68 = .ok (.aload_n 0, 1) := by decide +kernel
theorem dX3_work_69 : decode cX3_work 69 = .ok (.getfield 23, 3) := by decide +kernel
theorem dX3_work_72 : decode cX3_work 72 = .ok (.iconst 0, 1) := by decide +kernel
theorem dX3_work_73 : decode cX3_work 73 = .ok (.ldc2_w 48, 3) := by decide +kernel
theorem dX3_work_76 : decode cX3_work 76 = .ok (.lconst 0, 1) := by decide +kernel
theorem dX3_work_77 : decode cX3_work 77 = .ok (.invokevirtual 50, 3) := by decide +kernel
theorem dX3_work_80 : decode cX3_work 80 = .ok (.aload_n 0, 1) := by decide +kernel
theorem dX3_work_81 : decode cX3_work 81 = .ok (.iload_n 1, 1) := by decide +kernel
theorem dX3_work_82 : decode cX3_work 82 = .ok (.iload_n 3, 1) := by decide +kernel
theorem dX3_work_83 : decode cX3_work 83 = .ok (.iload 5, 2) := by decide +kernel
theorem dX3_work_85 : decode cX3_work 85 = .ok (.isub, 1) := by decide +kernel
theorem dX3_work_86 : decode cX3_work 86 = .ok (.iload_n 2, 1) := by decide +kernel
theorem dX3_work_87 : decode cX3_work 87 = .ok (.imul, 1) := by decide +kernel
theorem dX3_work_88 : decode cX3_work 88 = .ok (.iadd, 1) := by decide +kernel
theorem dX3_work_89 : decode cX3_work 89 = .ok (.iload_n 2, 1) := by decide +kernel
theorem dX3_work_90 : decode cX3_work 90 = .ok (.invokevirtual 54, 3) := by decide +kernel
theorem dX3_work_93 : decode cX3_work 93 = .ok (.istore 4, 2) := by decide +kernel
theorem dX3_work_95 : decode cX3_work 95 = .ok (.iinc 5 1, 3) := by decide +kernel
theorem dX3_work_98 : decode cX3_work 98 = .ok (.goto (-36), 3) := by decide +kernel
theorem dX3_work_101 : decode cX3_work 101 = .ok (.iload 4, 2) := by decide +kernel
theorem dX3_work_103 : decode cX3_work 103 = .ok (.ireturn, 1) := by decide +kernel
theorem dX3_goBack_0 : decode cX3_goBack 0 = .ok (.iconst 0, 1) := by decide +kernel
theorem dX3_goBack_1 : decode cX3_goBack 1 = .ok (.istore_n 3, 1) := by decide +kernel
theorem dX3_goBack_2 : decode cX3_goBack 2 = .ok (.aload_n 0, 1) := by decide +kernel
theorem dX3_goBack_3 : decode cX3_goBack 3 = .ok (.getfield 33, 3) := by decide +kernel
theorem dX3_goBack_6 : decode cX3_goBack 6 = .ok (.iload_n 1, 1) := by decide +kernel
theorem dX3_goBack_7 : decode cX3_goBack 7 = .ok (.iconst 1, 1) := by decide +kernel
theorem dX3_goBack_8 : decode cX3_goBack 8 = .ok (.iadd, 1) := by decide +kernel
theorem dX3_goBack_9 : decode cX3_goBack 9 = .ok (.invokevirtual 40, 3) := by decide +kernel
theorem dX3_goBack_12 : decode cX3_goBack 12 = .ok (.iconst 0, 1) := by decide +kernel
theorem dX3_goBack_13 : decode cX3_goBack 13 = .ok (.istore 4, 2) := by decide +kernel
theorem dX3_goBack_15 : decode cX3_goBack 15 = .ok (.iload 4, 2) := by decide +kernel
theorem dX3_goBack_17 : decode cX3_goBack 17 = .ok (.iload_n 1, 1) := by decide +kernel
theorem dX3_goBack_18 : decode cX3_goBack 18 = .ok (.if_icmp .gt 54, 3) := by decide +kernel
theorem dX3_goBack_21 : decode cX3_goBack 21 = .ok (.aload_n 0, 1) := by decide +kernel
theorem dX3_goBack_22 : decode cX3_goBack 22 = .ok (.getfield 33, 3) := by decide +kernel
theorem dX3_goBack_25 : decode cX3_goBack 25 = .ok (.iload 4, 2) := by decide +kernel
theorem dX3_goBack_27 : decode cX3_goBack 27 = .ok (.aload_n 0, 1) := by decide +kernel
theorem dX3_goBack_28 : decode cX3_goBack 28 = .ok (.getfield 30, 3) := by decide +kernel
theorem dX3_goBack_31 : decode cX3_goBack 31 = .ok (.iload 4, 2) := by decide +kernel
theorem dX3_goBack_33 : decode cX3_goBack 33 = .ok (.iload_n 2, 1) := by decide +kernel
theorem dX3_goBack_34 : decode cX3_goBack 34 = .ok (.iadd, 1) := by decide +kernel
theorem dX3_goBack_35 : decode cX3_goBack 35 = .ok (.iconst (-1), 1) := by decide +kernel
theorem dX3_goBack_36 : decode cX3_goBack 36 = .ok (.aload_n 0, 1) := by decide +kernel
theorem dX3_goBack_37 : decode cX3_goBack 37 = .ok (.getfield 12, 3) := by decide +kernel
theorem dX3_goBack_40 : decode cX3_goBack 40 = .ok (.iconst 4, 1) := by decide +kernel
theorem dX3_goBack_41 : decode cX3_goBack 41 = .ok (.invokevirtual 58, 3) := by decide +kernel
theorem dX3_goBack_44 : decode cX3_goBack 44 = .ok (.iload 4, 2) := by decide +kernel
theorem dX3_goBack_46 : decode cX3_goBack 46 = .ok (.ifCond .eq 12, 3) := by decide +kernel
theorem dX3_goBack_49 : decode cX3_goBack 49 = .ok (.aload_n 0, 1) := by decide +kernel
theorem dX3_goBack_50 : decode cX3_goBack 50 = .ok (.iload 4, 2) := by decide +kernel
theorem dX3_goBack_52 : decode cX3_goBack 52 = .ok (.invokevirtual 62, 3) := by decide +kernel
theorem dX3_goBack_55 : decode cX3_goBack 55 = .ok (.ifCond .ne 7, 3) := by decide +kernel
theorem dX3_goBack_58 : decode cX3_goBack 58 = .ok (.iconst 0, 1) := by decide +kernel
theorem dX3_goBack_59 : decode cX3_goBack 59 = .ok (.goto 6, 3) := by decide +kernel
theorem dX3_goBack_62 : decode cX3_goBack 62 = .ok (.iload_n 3, 1) := by decide +kernel
theorem dX3_goBack_63 : decode cX3_goBack 63 = .ok (.iconst 1, 1) := by decide +kernel
theorem dX3_goBack_64 : decode cX3_goBack 64 = .ok (.iadd, 1) := by decide +kernel
theorem dX3_goBack_65 : decode cX3_goBack 65 = .ok (.istore_n 3, 1) := by decide +kernel
theorem dX3_goBack_66 : decode cX3_goBack 66 = .ok (.iinc 4 1, 3) := by decide +kernel
theorem dX3_goBack_69 : decode cX3_goBack 69 = .ok (.goto (-54), 3) := by decide +kernel
theorem dX3_goBack_72 : decode cX3_goBack 72 = .ok (.aload_n 0, 1) := by decide +kernel
theorem dX3_goBack_73 : decode cX3_goBack 73 = .ok (.getfield 30, 3) := by decide +kernel
theorem dX3_goBack_76 : decode cX3_goBack 76 = .ok (.astore 4, 2) := by decide +kernel
theorem dX3_goBack_78 : decode cX3_goBack 78 = .ok (.aload_n 0, 1) := by decide +kernel
theorem dX3_goBack_79 : decode cX3_goBack 79 = .ok (.aload_n 0, 1) := by decide +kernel
theorem dX3_goBack_80 : decode cX3_goBack 80 = .ok (.getfield 33, 3) := by decide +kernel
theorem dX3_goBack_83 : decode cX3_goBack 83 = .ok (.putfield 30, 3) := by decide +kernel
theorem dX3_goBack_86 : decode cX3_goBack 86 = .ok (.aload_n 0, 1) := by decide +kernel
theorem dX3_goBack_87 : decode cX3_goBack 87 = .ok (.aload 4, 2) := by decide +kernel
theorem dX3_goBack_89 : decode cX3_goBack 89 = .ok (.putfield 33, 3) := by decide +kernel
theorem dX3_goBack_92 : decode cX3_goBack 92 = .ok (.iload_n 3, 1) := by decide +kernel
theorem dX3_goBack_93 : decode cX3_goBack 93 = .ok (.ireturn, 1) := by decide +kernel
theorem dX3_payOne_0 : decode cX3_payOne 0 = .ok (.aload_n 0, 1) := by decide +kernel
theorem dX3_payOne_1 : decode cX3_payOne 1 = .ok (.getfield 27, 3) := by decide +kernel
theorem dX3_payOne_4 : decode cX3_payOne 4 = .ok (.iconst 0, 1) := by decide +kernel
theorem dX3_payOne_5 : decode cX3_payOne 5 = .ok (.aload_n 0, 1) := by decide +kernel
theorem dX3_payOne_6 : decode cX3_payOne 6 = .ok (.getfield 33, 3) := by decide +kernel
theorem dX3_payOne_9 : decode cX3_payOne 9 = .ok (.iload_n 1, 1) := by decide +kernel
theorem dX3_payOne_10 : decode cX3_payOne 10 = .ok (.iconst 1, 1) := by decide +kernel
theorem dX3_payOne_11 : decode cX3_payOne 11 = .ok (.isub, 1) := by decide +kernel
theorem dX3_payOne_12 : decode cX3_payOne 12 = .ok (.invokevirtual 66, 3) := by decide +kernel
theorem dX3_payOne_15 : decode cX3_payOne 15 = .ok (.aload_n 0, 1) := by decide +kernel
theorem dX3_payOne_16 : decode cX3_payOne 16 = .ok (.getfield 27, 3) := by decide +kernel
theorem dX3_payOne_19 : decode cX3_payOne 19 = .ok (.iconst 0, 1) := by decide +kernel
theorem dX3_payOne_20 : decode cX3_payOne 20 = .ok (.lconst 1, 1) := by decide +kernel
theorem dX3_payOne_21 : decode cX3_payOne 21 = .ok (.aload_n 0, 1) := by decide +kernel
theorem dX3_payOne_22 : decode cX3_payOne 22 = .ok (.getfield 23, 3) := by decide +kernel
theorem dX3_payOne_25 : decode cX3_payOne 25 = .ok (.iconst 0, 1) := by decide +kernel
theorem dX3_payOne_26 : decode cX3_payOne 26 = .ok (.lconst 1, 1) := by decide +kernel
theorem dX3_payOne_27 : decode cX3_payOne 27 = .ok (.invokevirtual 70, 3) := by decide +kernel
theorem dX3_payOne_30 : decode cX3_payOne 30 = .ok (.aload_n 0, 1) := by decide +kernel
theorem dX3_payOne_31 : decode cX3_payOne 31 = .ok (.getfield 33, 3) := by decide +kernel
theorem dX3_payOne_34 : decode cX3_payOne 34 = .ok (.iload_n 1, 1) := by decide +kernel
theorem dX3_payOne_35 : decode cX3_payOne 35 = .ok (.aload_n 0, 1) := by decide +kernel
theorem dX3_payOne_36 : decode cX3_payOne 36 = .ok (.getfield 27, 3) := by decide +kernel
theorem dX3_payOne_39 : decode cX3_payOne 39 = .ok (.iconst 0, 1) := by decide +kernel
theorem dX3_payOne_40 : decode cX3_payOne 40 = .ok (.invokevirtual 74, 3) := by decide +kernel
theorem dX3_payOne_43 : decode cX3_payOne 43 = .ok (.ifCond .lt 5, 3) := by decide +kernel
theorem dX3_payOne_46 : decode cX3_payOne 46 = .ok (.iconst 0, 1) := by decide +kernel
theorem dX3_payOne_47 : decode cX3_payOne 47 = .ok (.ireturn, 1) := by decide +kernel
theorem dX3_payOne_48 : decode cX3_payOne 48 = .ok (.aload_n 0, 1) := by decide +kernel
theorem dX3_payOne_49 : decode cX3_payOne 49 = .ok (.getfield 33, 3) := by decide +kernel
theorem dX3_payOne_52 : decode cX3_payOne 52 = .ok (.iload_n 1, 1) := by decide +kernel
theorem dX3_payOne_53 : decode cX3_payOne 53 = .ok (.aload_n 0, 1) := by decide +kernel
theorem dX3_payOne_54 : decode cX3_payOne 54 = .ok (.getfield 27, 3) := by decide +kernel
theorem dX3_payOne_57 : decode cX3_payOne 57 = .ok (.iconst 0, 1) := by decide +kernel
theorem dX3_payOne_58 : decode cX3_payOne 58 = .ok (.invokevirtual 66, 3) := by decide +kernel
theorem dX3_payOne_61 : decode cX3_payOne 61 = .ok (.iconst 1, 1) := by decide +kernel
theorem dX3_payOne_62 : decode cX3_payOne 62 = .ok (.ireturn, 1) := by decide +kernel
theorem dX4_init_0 : decode cX4_init 0 = .ok (.aload_n 0, 1) := by decide +kernel
theorem dX4_init_1 : decode cX4_init 1 = .ok (.invokespecial 3, 3) := by decide +kernel
theorem dX4_init_4 : decode cX4_init 4 = .ok (.aload_n 0, 1) := by decide +kernel
theorem dX4_init_5 : decode cX4_init 5 = .ok (.iload_n 1, 1) := by decide +kernel
theorem dX4_init_6 : decode cX4_init 6 = .ok (.iconst 1, 1) := by decide +kernel
theorem dX4_init_7 : decode cX4_init 7 = .ok (.invokestatic 9, 3) := by decide +kernel
theorem dX4_init_10 : decode cX4_init 10 = .ok (.putfield 15, 3) := by decide +kernel
theorem dX4_init_13 : decode cX4_init 13 = .ok (.aload_n 0, 1) := by decide +kernel
theorem dX4_init_14 : decode cX4_init 14 = .ok (.iload_n 2, 1) := by decide +kernel
theorem dX4_init_15 : decode cX4_init 15 = .ok (.iconst 1, 1) := by decide +kernel
theorem dX4_init_16 : decode cX4_init 16 = .ok (.invokestatic 9, 3) := by decide +kernel
theorem dX4_init_19 : decode cX4_init 19 = .ok (.putfield 21, 3) := by decide +kernel
theorem dX4_init_22 : decode cX4_init 22 = .ok (.aload_n 0, 1) := by decide +kernel
theorem dX4_init_23 : decode cX4_init 23 = .ok (.aload_n 0, 1) := by decide +kernel
theorem dX4_init_24 : decode cX4_init 24 = .ok (.getfield 15, 3) := by decide +kernel
theorem dX4_init_27 : decode cX4_init 27 = .ok (.aload_n 0, 1) := by decide +kernel
theorem dX4_init_28 : decode cX4_init 28 = .ok (.getfield 21, 3) := by decide +kernel
theorem dX4_init_31 : decode cX4_init 31 = .ok (.imul, 1) := by decide +kernel
theorem dX4_init_32 : decode cX4_init 32 = .ok (.newarray .long, 2) := by decide +kernel
theorem dX4_init_34 : decode cX4_init 34 = .ok (.putfield 24, 3) := by decide +kernel
theorem dX4_init_37 : decode cX4_init 37 = .ok (.aload_n 0, 1) := by decide +kernel
theorem dX4_init_38 : decode cX4_init 38 = .ok (.aload_n 0, 1) := by decide +kernel
theorem dX4_init_39 : decode cX4_init 39 = .ok (.getfield 15, 3) := by decide +kernel
theorem dX4_init_42 : decode cX4_init 42 = .ok (.putfield 28, 3) := by decide +kernel
theorem dX4_init_45 : decode cX4_init 45 = .ok (.return_, 1) := by decide +kernel
theorem dX4_has_0 : decode cX4_has 0 = .ok (.iload_n 1, 1) := by decide +kernel
theorem dX4_has_1 : decode cX4_has 1 = .ok (.ifCond .lt 15, 3) := by decide +kernel
theorem dX4_has_4 : decode cX4_has 4 = .ok (.iload_n 1, 1) := by decide +kernel
theorem dX4_has_5 : decode cX4_has 5 = .ok (.aload_n 0, 1) := by decide +kernel
theorem dX4_has_6 : decode cX4_has 6 = .ok (.getfield 28, 3) := by decide +kernel
theorem dX4_has_9 : decode cX4_has 9 = .ok (.if_icmp .ge 7, 3) := by decide +kernel
theorem dX4_has_12 : decode cX4_has 12 = .ok (.iconst 1, 1) := by decide +kernel
theorem dX4_has_13 : decode cX4_has 13 = .ok (.goto 4, 3) := by decide +kernel
theorem dX4_has_16 : decode cX4_has 16 = .ok (.iconst 0, 1) := by decide +kernel
theorem dX4_has_17 : decode cX4_has 17 = .ok (.ireturn, 1) := by decide +kernel
theorem dX4_open_0 : decode cX4_open 0 = .ok (.aload_n 0, 1) := by decide +kernel
theorem dX4_open_1 : decode cX4_open 1 = .ok (.iload_n 1, 1) := by decide +kernel
theorem dX4_open_2 : decode cX4_open 2 = .ok (.aload_n 0, 1) := by decide +kernel
theorem dX4_open_3 : decode cX4_open 3 = .ok (.getfield 15, 3) := by decide +kernel
theorem dX4_open_6 : decode cX4_open 6 = .ok (.invokestatic 31, 3) := by decide +kernel
theorem dX4_open_9 : decode cX4_open 9 = .ok (.iconst 0, 1) := by decide +kernel
theorem dX4_open_10 : decode cX4_open 10 = .ok (.invokestatic 9, 3) := by decide +kernel
theorem dX4_open_13 : decode cX4_open 13 = .ok (.putfield 28, 3) := by decide +kernel
theorem dX4_open_16 : decode cX4_open 16 = .ok (.return_, 1) := by decide +kernel
theorem dX4_wipe_0 : decode cX4_wipe 0 = .ok (.aload_n 0, 1) := by decide +kernel
theorem dX4_wipe_1 : decode cX4_wipe 1 = .ok (.getfield 24, 3) := by decide +kernel
theorem dX4_wipe_4 : decode cX4_wipe 4 = .ok (.lconst 0, 1) := by decide +kernel
theorem dX4_wipe_5 : decode cX4_wipe 5 = .ok (.invokestatic 34, 3) := by decide +kernel
theorem dX4_wipe_8 : decode cX4_wipe 8 = .ok (.return_, 1) := by decide +kernel
theorem dX4_put_0 : decode cX4_put 0 = .ok (.iconst 0, 1) := by decide +kernel
theorem dX4_put_1 : decode cX4_put 1 = .ok (.istore 4, 2) := by decide +kernel
theorem dX4_put_3 : decode cX4_put 3 = .ok (.iload 4, 2) := by decide +kernel
theorem dX4_put_5 : decode cX4_put 5 = .ok (.aload_n 0, 1) := by decide +kernel
theorem dX4_put_6 : decode cX4_put 6 = .ok (.getfield 21, 3) := by decide +kernel
theorem dX4_put_9 : decode cX4_put 9 = .ok (.if_icmp .ge 26, 3) := by decide +kernel
theorem dX4_put_12 : decode cX4_put 12 = .ok (.aload_n 0, 1) := by decide +kernel
theorem dX4_put_13 : decode cX4_put 13 = .ok (.iload_n 1, 1) := by decide +kernel
theorem dX4_put_14 : decode cX4_put 14 = .ok (.iload 4, 2) := by decide +kernel
theorem dX4_put_16 : decode cX4_put 16 = .ok (.iload 4, 2) := by decide +kernel
theorem dX4_put_18 : decode cX4_put 18 = .ok (.ifCond .ne 7, 3) := by decide +kernel
theorem dX4_put_21 : decode cX4_put 21 = .ok (.lload_n 2, 1) := by decide +kernel
theorem dX4_put_22 : decode cX4_put 22 = .ok (.goto 4, 3) := by decide +kernel
theorem dX4_put_25 : decode cX4_put 25 = .ok (.lconst 0, 1) := by decide +kernel
theorem dX4_put_26 : decode cX4_put 26 = .ok (.invokevirtual 40, 3) := by decide +kernel
theorem dX4_put_29 : decode cX4_put 29 = .ok (.iinc 4 1, 3) := by decide +kernel
theorem dX4_put_32 : decode cX4_put 32 = .ok (.goto (-29), 3) := by decide +kernel
theorem dX4_put_35 : decode cX4_put 35 = .ok (.return_, 1) := by decide +kernel
theorem dX4_copy_0 : decode cX4_copy 0 = .ok (.iconst 0, 1) := by decide +kernel
theorem dX4_copy_1 : decode cX4_copy 1 = .ok (.istore 4, 2) := by decide +kernel
theorem dX4_copy_3 : decode cX4_copy 3 = .ok (.iload 4, 2) := by decide +kernel
theorem dX4_copy_5 : decode cX4_copy 5 = .ok (.aload_n 0, 1) := by decide +kernel
theorem dX4_copy_6 : decode cX4_copy 6 = .ok (.getfield 21, 3) := by decide +kernel
theorem dX4_copy_9 : decode cX4_copy 9 = .ok (.if_icmp .ge 23, 3) := by decide +kernel
theorem dX4_copy_12 : decode cX4_copy 12 = .ok (.aload_n 0, 1) := by decide +kernel
theorem dX4_copy_13 : decode cX4_copy 13 = .ok (.iload_n 1, 1) := by decide +kernel
theorem dX4_copy_14 : decode cX4_copy 14 = .ok (.iload 4, 2) := by decide +kernel
theorem dX4_copy_16 : decode cX4_copy 16 = .ok (.aload_n 2, 1) := by decide +kernel
theorem dX4_copy_17 : decode cX4_copy 17 = .ok (.iload_n 3, 1) := by decide +kernel
theorem dX4_copy_18 : decode cX4_copy 18 = .ok (.iload 4, 2) := by decide +kernel
theorem dX4_copy_20 : decode cX4_copy 20 = .ok (.invokevirtual 44, 3) := by decide +kernel
theorem dX4_copy_23 : decode cX4_copy 23 = .ok (.invokevirtual 40, 3) := by decide +kernel
theorem dX4_copy_26 : decode cX4_copy 26 = .ok (.iinc 4 1, 3) := by decide +kernel
theorem dX4_copy_29 : decode cX4_copy 29 = .ok (.goto (-26), 3) := by decide +kernel
theorem dX4_copy_32 : decode cX4_copy 32 = .ok (.return_, 1) := by decide +kernel
theorem dX4_times_0 : decode cX4_times 0 = .ok (.lload 4, 2) := by decide +kernel
theorem dX4_times_2 : decode cX4_times 2 = .ok (.lstore 6, 2) := by decide +kernel
theorem dX4_times_4 : decode cX4_times 4 = .ok (.iconst 0, 1) := by decide +kernel
theorem dX4_times_5 : decode cX4_times 5 = .ok (.istore 8, 2) := by decide +kernel
theorem dX4_times_7 : decode cX4_times 7 = .ok (.iload 8, 2) := by decide +kernel
theorem dX4_times_9 : decode cX4_times 9 = .ok (.aload_n 0, 1) := by decide +kernel
theorem dX4_times_10 : decode cX4_times 10 = .ok (.getfield 21, 3) := by decide +kernel
theorem dX4_times_13 : decode cX4_times 13 = .ok (.if_icmp .ge 44, 3) := by decide +kernel
theorem dX4_times_16 : decode cX4_times 16 = .ok (.lload 6, 2) := by decide +kernel
theorem dX4_times_18 : decode cX4_times 18 = .ok (.aload_n 0, 1) := by decide +kernel
theorem dX4_times_19 : decode cX4_times 19 = .ok (.iload_n 1, 1) := by decide +kernel
theorem dX4_times_20 : decode cX4_times 20 = .ok (.iload 8, 2) := by decide +kernel
theorem dX4_times_22 : decode cX4_times 22 = .ok (.invokevirtual 44, 3) := by decide +kernel
theorem dX4_times_25 : decode cX4_times 25 = .ok (.lload_n 2, 1) := by decide +kernel
theorem dX4_times_26 : decode cX4_times 26 = .ok (.lmul, 1) := by decide +kernel
theorem dX4_times_27 : decode cX4_times 27 = .ok (.ladd, 1) := by decide +kernel
theorem dX4_times_28 : decode cX4_times 28 = .ok (.lstore 6, 2) := by decide +kernel
theorem dX4_times_30 : decode cX4_times 30 = .ok (.aload_n 0, 1) := by decide +kernel
theorem dX4_times_31 : decode cX4_times 31 = .ok (.iload_n 1, 1) := by decide +kernel
theorem dX4_times_32 : decode cX4_times 32 = .ok (.iload 8, 2) := by decide +kernel
theorem dX4_times_34 : decode cX4_times 34 = .ok (.lload 6, 2) := by decide +kernel
theorem dX4_times_36 : decode cX4_times 36 = .ok (.ldc2_w 48, 3) := by decide +kernel
theorem dX4_times_39 : decode cX4_times 39 = .ok (.lrem, 1) := by decide +kernel
theorem dX4_times_40 : decode cX4_times 40 = .ok (.invokevirtual 40, 3) := by decide +kernel
theorem dX4_times_43 : decode cX4_times 43 = .ok (.lload 6, 2) := by decide +kernel
theorem dX4_times_45 : decode cX4_times 45 = .ok (.ldc2_w 48, 3) := by decide +kernel
theorem dX4_times_48 : decode cX4_times 48 = .ok (.ldiv, 1) := by decide +kernel
theorem dX4_times_49 : decode cX4_times 49 = .ok (.lstore 6, 2) := by decide +kernel
theorem dX4_times_51 : decode cX4_times 51 = .ok (.iinc 8 1, 3) := by decide +kernel
theorem dX4_times_54 : decode cX4_times 54 = .ok (.goto (-47), 3) := by decide +kernel
theorem dX4_times_57 : decode cX4_times 57 = .ok (.return_, 1) := by decide +kernel
theorem dX4_combine_0 : decode cX4_combine 0 = .ok (.lconst 0, 1) := by decide +kernel
theorem dX4_combine_1 : decode cX4_combine 1 = .ok (.lstore 8, 2) := by decide +kernel
theorem dX4_combine_3 : decode cX4_combine 3 = .ok (.iconst 0, 1) := by decide +kernel
theorem dX4_combine_4 : decode cX4_combine 4 = .ok (.istore 10, 2) := by decide +kernel
theorem dX4_combine_6 : decode cX4_combine 6 = .ok (.iload 10, 2) := by decide +kernel
theorem dX4_combine_8 : decode cX4_combine 8 = .ok (.aload_n 0, 1) := by decide +kernel
theorem dX4_combine_9 : decode cX4_combine 9 = .ok (.getfield 21, 3) := by decide +kernel
theorem dX4_combine_12 : decode cX4_combine 12 = .ok (.if_icmp .ge 61, 3) := by decide +kernel
theorem dX4_combine_15 : decode cX4_combine 15 = .ok (.lload 8, 2) := by decide +kernel
theorem dX4_combine_17 : decode cX4_combine 17 = .ok (.aload_n 0, 1) := by decide +kernel
theorem dX4_combine_18 : decode cX4_combine 18 = .ok (.iload_n 1, 1) := by decide +kernel
theorem dX4_combine_19 : decode cX4_combine 19 = .ok (.iload 10, 2) := by decide +kernel
theorem dX4_combine_21 : decode cX4_combine 21 = .ok (.invokevirtual 44, 3) := by decide +kernel
theorem dX4_combine_24 : decode cX4_combine 24 = .ok (.lload_n 2, 1) := by decide +kernel
theorem dX4_combine_25 : decode cX4_combine 25 = .ok (.lmul, 1) := by decide +kernel
theorem dX4_combine_26 : decode cX4_combine 26 = .ok (.aload 4, 2) := by decide +kernel
theorem dX4_combine_28 : decode cX4_combine 28 = .ok (.iload 5, 2) := by decide +kernel
theorem dX4_combine_30 : decode cX4_combine 30 = .ok (.iload 10, 2) := by decide +kernel
theorem dX4_combine_32 : decode cX4_combine 32 = .ok (.invokevirtual 44, 3) := by decide +kernel
theorem dX4_combine_35 : decode cX4_combine 35 = .ok (.lload 6, 2) := by decide +kernel
theorem dX4_combine_37 : decode cX4_combine 37 = .ok (.lmul, 1) := by decide +kernel
theorem dX4_combine_38 : decode cX4_combine 38 = .ok (.ladd, 1) := by decide +kernel
theorem dX4_combine_39 : decode cX4_combine 39 = .ok (.ladd, 1) := by decide +kernel
theorem dX4_combine_40 : decode cX4_combine 40 = .ok (.lstore 8, 2) := by decide +kernel
theorem dX4_combine_42 : decode cX4_combine 42 = .ok (.aload_n 0, 1) := by decide +kernel
theorem dX4_combine_43 : decode cX4_combine 43 = .ok (.iload_n 1, 1) := by decide +kernel
theorem dX4_combine_44 : decode cX4_combine 44 = .ok (.iload 10, 2) := by decide +kernel
theorem dX4_combine_46 : decode cX4_combine 46 = .ok (.lload 8, 2) := by decide +kernel
theorem dX4_combine_48 : decode cX4_combine 48 = .ok (.ldc2_w 48, 3) := by decide +kernel
theorem dX4_combine_51 : decode cX4_combine 51 = .ok (.invokestatic 50, 3) := by decide +kernel
theorem dX4_combine_54 : decode cX4_combine 54 = .ok (.invokevirtual 40, 3) := by decide +kernel
theorem dX4_combine_57 : decode cX4_combine 57 = .ok (.lload 8, 2) := by decide +kernel
theorem dX4_combine_59 : decode cX4_combine 59 = .ok (.ldc2_w 48, 3) := by decide +kernel
theorem dX4_combine_62 : decode cX4_combine 62 = .ok (.invokestatic 54, 3) := by decide +kernel
theorem dX4_combine_65 : decode cX4_combine 65 = .ok (.lstore 8, 2) := by decide +kernel
theorem dX4_combine_67 : decode cX4_combine 67 = .ok (.iinc 10 1, 3) := by decide +kernel
theorem dX4_combine_70 : decode cX4_combine 70 = .ok (.goto (-64), 3) := by decide +kernel
theorem dX4_combine_73 : decode cX4_combine 73 = .ok (.return_, 1) := by decide +kernel
theorem dX4_mix_0 : decode cX4_mix 0 = .ok (.iload 6, 2) := by decide +kernel
theorem dX4_mix_2 : decode cX4_mix 2 = .ok (.aload_n 0, 1) := by decide +kernel
theorem dX4_mix_3 : decode cX4_mix 3 = .ok (.getfield 21, 3) := by decide +kernel
theorem dX4_mix_6 : decode cX4_mix 6 = .ok (.aload_n 2, 1) := by decide +kernel
theorem dX4_mix_7 : decode cX4_mix 7 = .ok (.getfield 21, 3) := by decide +kernel
theorem dX4_mix_10 : decode cX4_mix 10 = .ok (.invokestatic 31, 3) := by decide +kernel
theorem dX4_mix_13 : decode cX4_mix 13 = .ok (.invokestatic 31, 3) := by decide +kernel
theorem dX4_mix_16 : decode cX4_mix 16 = .ok (.istore 7, 2) := by decide +kernel
theorem dX4_mix_18 : decode cX4_mix 18 = .ok (.aload_n 0, 1) := by decide +kernel
theorem dX4_mix_19 : decode cX4_mix 19 = .ok (.iload_n 1, 1) := by decide +kernel
theorem dX4_mix_20 : decode cX4_mix 20 = .ok (.invokevirtual 57, 3) := by decide +kernel
theorem dX4_mix_23 : decode cX4_mix 23 = .ok (.ifCond .eq 9, 3) := by decide +kernel
theorem dX4_mix_26 : decode cX4_mix 26 = .ok (.iload 7, 2) := by decide +kernel
theorem dX4_mix_28 : decode cX4_mix 28 = .ok (.iconst 1, 1) := by decide +kernel
theorem dX4_mix_29 : decode cX4_mix 29 = .ok (.if_icmp .ge 4, 3) := by decide +kernel
theorem dX4_mix_32 : decode cX4_mix 32 = .ok (.return_, 1) := by decide +kernel
theorem dX4_mix_33 : decode cX4_mix 33 = .ok (.iload_n 1, 1) := by decide +kernel
theorem dX4_mix_34 : decode cX4_mix 34 = .ok (.aload_n 0, 1) := by decide +kernel
theorem dX4_mix_35 : decode cX4_mix 35 = .ok (.getfield 21, 3) := by decide +kernel
theorem dX4_mix_38 : decode cX4_mix 38 = .ok (.imul, 1) := by decide +kernel
theorem dX4_mix_39 : decode cX4_mix 39 = .ok (.istore 8, 2) := by decide +kernel
theorem dX4_mix_41 : decode cX4_mix 41 = .ok (.iload 8, 2) := by decide +kernel
theorem dX4_mix_43 : decode cX4_mix 43 = .ok (.iload_n 1, 1) := by decide +kernel
theorem dX4_mix_44 : decode cX4_mix 44 = .ok (.aload_n 0, 1) := by decide +kernel
theorem dX4_mix_45 : decode cX4_mix 45 = .ok (.getfield 21, 3) := by decide +kernel
theorem dX4_mix_48 : decode cX4_mix 48 = .ok (.imul, 1) := by decide +kernel
theorem dX4_mix_49 : decode cX4_mix 49 = .ok (.iload 7, 2) := by decide +kernel
theorem dX4_mix_51 : decode cX4_mix 51 = .ok (.iadd, 1) := by decide +kernel
theorem dX4_mix_52 : decode cX4_mix 52 = .ok (.if_icmp .ge 17, 3) := by decide +kernel
theorem dX4_mix_55 : decode cX4_mix 55 = .ok (.aload_n 0, 1) := by decide +kernel
theorem dX4_mix_56 : decode cX4_mix 56 = .ok (.getfield 24, 3) := by decide +kernel
theorem dX4_mix_59 : decode cX4_mix 59 = .ok (.iload 8, 2) := by decide +kernel
theorem dX4_mix_61 : decode cX4_mix 61 = .ok (.lconst 0, 1) := by decide +kernel
theorem dX4_mix_62 : decode cX4_mix 62 = .ok (.lastore, 1) := by decide +kernel
theorem dX4_mix_63 : decode cX4_mix 63 = .ok (.iinc 8 1, 3) := by decide +kernel
theorem dX4_mix_66 : decode cX4_mix 66 = .ok (.goto (-25), 3) := by decide +kernel
theorem dX4_mix_69 : decode cX4_mix 69 = .ok (.iconst 0, 1) := by decide +kernel
theorem dX4_mix_70 : decode cX4_mix 70 = .ok (.istore 8, 2) := by decide +kernel
theorem dX4_mix_72 : decode cX4_mix 72 = .ok (.iload 8, 2) := by decide +kernel
theorem dX4_mix_74 : decode cX4_mix 74 = .ok (.aload 5, 2) := by decide +kernel
theorem dX4_mix_76 : decode cX4_mix 76 = .ok (.getfield 61, 3) := by decide +kernel
theorem dX4_mix_79 : decode cX4_mix 79 = .ok (.if_icmp .gt 31, 3) := by decide +kernel
theorem dX4_mix_82 : decode cX4_mix 82 = .ok (.aload_n 0, 1) := by decide +kernel
theorem dX4_mix_83 : decode cX4_mix 83 = .ok (.iload_n 1, 1) := by decide +kernel
theorem dX4_mix_84 : decode cX4_mix 84 = .ok (.aload_n 2, 1) := by decide +kernel
theorem dX4_mix_85 : decode cX4_mix 85 = .ok (.iload_n 3, 1) := by decide +kernel
theorem dX4_mix_86 : decode cX4_mix 86 = .ok (.iload 4, 2) := by decide +kernel
theorem dX4_mix_88 : decode cX4_mix 88 = .ok (.iload 8, 2) := by decide +kernel
theorem dX4_mix_90 : decode cX4_mix 90 = .ok (.imul, 1) := by decide +kernel
theorem dX4_mix_91 : decode cX4_mix 91 = .ok (.iadd, 1) := by decide +kernel
theorem dX4_mix_92 : decode cX4_mix 92 = .ok (.aload 5, 2) := by decide +kernel
theorem dX4_mix_94 : decode cX4_mix 94 = .ok (.iload 8, 2) := by decide +kernel
theorem dX4_mix_96 : decode cX4_mix 96 = .ok (.invokevirtual 66, 3) := by decide +kernel
theorem dX4_mix_99 : decode cX4_mix 99 = .ok (.iload 7, 2) := by decide +kernel
theorem dX4_mix_101 : decode cX4_mix 101 = .ok (.invokevirtual 70, 3) := by decide +kernel
theorem dX4_mix_104 : decode cX4_mix 104 = .ok (.iinc 8 1, 3) := by decide +kernel
theorem dX4_mix_107 : decode cX4_mix 107 = .ok (.goto (-35), 3) := by decide +kernel
theorem dX4_mix_110 : decode cX4_mix 110 = .ok (.lconst 0, 1) := by decide +kernel
theorem dX4_mix_111 : decode cX4_mix 111 = .ok (.lstore 8, 2) := by decide +kernel
theorem dX4_mix_113 : decode cX4_mix 113 = .ok (.iload_n 1, 1) := by decide +kernel
theorem dX4_mix_114 : decode cX4_mix 114 = .ok (.aload_n 0, 1) := by decide +kernel
theorem dX4_mix_115 : decode cX4_mix 115 = .ok (.getfield 21, 3) := by decide +kernel
theorem dX4_mix_118 : decode cX4_mix 118 = .ok (.imul, 1) := by decide +kernel
theorem dX4_mix_119 : decode cX4_mix 119 = .ok (.istore 10, 2) := by decide +kernel
theorem dX4_mix_121 : decode cX4_mix 121 = .ok (.iload 10, 2) := by decide +kernel
theorem dX4_mix_123 : decode cX4_mix 123 = .ok (.iload_n 1, 1) := by decide +kernel
theorem dX4_mix_124 : decode cX4_mix 124 = .ok (.aload_n 0, 1) := by decide +kernel
theorem dX4_mix_125 : decode cX4_mix 125 = .ok (.getfield 21, 3) := by decide +kernel
theorem dX4_mix_128 : decode cX4_mix 128 = .ok (.imul, 1) := by decide +kernel
theorem dX4_mix_129 : decode cX4_mix 129 = .ok (.iload 7, 2) := by decide +kernel
theorem dX4_mix_131 : decode cX4_mix 131 = .ok (.iadd, 1) := by decide +kernel
theorem dX4_mix_132 : decode cX4_mix 132 = .ok (.if_icmp .ge 42, 3) := by decide +kernel
theorem dX4_mix_135 : decode cX4_mix 135 = .ok (.lload 8, 2) := by decide +kernel
theorem dX4_mix_137 : decode cX4_mix 137 = .ok (.aload_n 0, 1) := by decide +kernel
theorem dX4_mix_138 : decode cX4_mix 138 = .ok (.getfield 24, 3) := by decide +kernel
theorem dX4_mix_141 : decode cX4_mix 141 = .ok (.iload 10, 2) := by decide +kernel
theorem dX4_mix_143 : decode cX4_mix 143 = .ok (.laload, 1) := by decide +kernel
theorem dX4_mix_144 : decode cX4_mix 144 = .ok (.ladd, 1) := by decide +kernel
theorem dX4_mix_145 : decode cX4_mix 145 = .ok (.lstore 8, 2) := by decide +kernel
theorem dX4_mix_147 : decode cX4_mix 147 = .ok (.aload_n 0, 1) := by decide +kernel
theorem dX4_mix_148 : decode cX4_mix 148 = .ok (.getfield 24, 3) := by decide +kernel
theorem dX4_mix_151 : decode cX4_mix 151 = .ok (.iload 10, 2) := by decide +kernel
theorem dX4_mix_153 : decode cX4_mix 153 = .ok (.lload 8, 2) := by decide +kernel
theorem dX4_mix_155 : decode cX4_mix 155 = .ok (.ldc2_w 48, 3) := by decide +kernel
theorem dX4_mix_158 : decode cX4_mix 158 = .ok (.lrem, 1) := by decide +kernel
theorem dX4_mix_159 : decode cX4_mix 159 = .ok (.lastore, 1) := by decide +kernel
theorem dX4_mix_160 : decode cX4_mix 160 = .ok (.lload 8, 2) := by decide +kernel
theorem dX4_mix_162 : decode cX4_mix 162 = .ok (.ldc2_w 48, 3) := by decide +kernel
theorem dX4_mix_165 : decode cX4_mix 165 = .ok (.ldiv, 1) := by decide +kernel
theorem dX4_mix_166 : decode cX4_mix 166 = .ok (.lstore 8, 2) := by decide +kernel
theorem dX4_mix_168 : decode cX4_mix 168 = .ok (.iinc 10 1, 3) := by decide +kernel
theorem dX4_mix_171 : decode cX4_mix 171 = .ok (.goto (-50), 3) := by decide +kernel
theorem dX4_mix_174 : decode cX4_mix 174 = .ok (.return_, 1) := by decide +kernel
theorem dX4_gather_0 : decode cX4_gather 0 = .ok (.lload 4, 2) := by decide +kernel
theorem dX4_gather_2 : decode cX4_gather 2 = .ok (.lconst 0, 1) := by decide +kernel
theorem dX4_gather_3 : decode cX4_gather 3 = .ok (.lcmp, 1) := by decide +kernel
theorem dX4_gather_4 : decode cX4_gather 4 = .ok (.ifCond .eq 11, 3) := by decide +kernel
theorem dX4_gather_7 : decode cX4_gather 7 = .ok (.aload_n 2, 1) := by decide +kernel
theorem dX4_gather_8 : decode cX4_gather 8 = .ok (.iload_n 3, 1) := by decide +kernel
theorem dX4_gather_9 : decode cX4_gather 9 = .ok (.invokevirtual 57, 3) := by decide +kernel
theorem dX4_gather_12 : decode cX4_gather 12 = .ok (.ifCond .ne 4, 3) := by decide +kernel
theorem dX4_gather_15 : decode cX4_gather 15 = .ok (.return_, 1) := by decide +kernel
theorem dX4_gather_16 : decode cX4_gather 16 = .ok (.iload_n 1, 1) := by decide +kernel
theorem dX4_gather_17 : decode cX4_gather 17 = .ok (.aload_n 0, 1) := by decide +kernel
theorem dX4_gather_18 : decode cX4_gather 18 = .ok (.getfield 21, 3) := by decide +kernel
theorem dX4_gather_21 : decode cX4_gather 21 = .ok (.imul, 1) := by decide +kernel
theorem dX4_gather_22 : decode cX4_gather 22 = .ok (.istore 7, 2) := by decide +kernel
theorem dX4_gather_24 : decode cX4_gather 24 = .ok (.iload_n 3, 1) := by decide +kernel
theorem dX4_gather_25 : decode cX4_gather 25 = .ok (.aload_n 2, 1) := by decide +kernel
theorem dX4_gather_26 : decode cX4_gather 26 = .ok (.getfield 21, 3) := by decide +kernel
theorem dX4_gather_29 : decode cX4_gather 29 = .ok (.imul, 1) := by decide +kernel
theorem dX4_gather_30 : decode cX4_gather 30 = .ok (.istore 8, 2) := by decide +kernel
theorem dX4_gather_32 : decode cX4_gather 32 = .ok (.iconst 0, 1) := by decide +kernel
theorem dX4_gather_33 : decode cX4_gather 33 = .ok (.istore 9, 2) := by decide +kernel
theorem dX4_gather_35 : decode cX4_gather 35 = .ok (.iload 9, 2) := by decide +kernel
theorem dX4_gather_37 : decode cX4_gather 37 = .ok (.iload 6, 2) := by decide +kernel
theorem dX4_gather_39 : decode cX4_gather 39 = .ok (.if_icmp .ge 35, 3) := by decide +kernel
theorem dX4_gather_42 : decode cX4_gather 42 = .ok (.aload_n 0, 1) := by decide +kernel
theorem dX4_gather_43 : decode cX4_gather 43 = .ok (.getfield 24, 3) := by decide +kernel
theorem dX4_gather_46 : decode cX4_gather 46 = .ok (.iload 7, 2) := by decide +kernel
theorem dX4_gather_48 : decode cX4_gather 48 = .ok (.iload 9, 2) := by decide +kernel
theorem dX4_gather_50 : decode cX4_gather 50 = .ok (.iadd, 1) := by decide +kernel
theorem dX4_gather_51 : decode cX4_gather 51 = .ok (.dup2, 1) := by decide +kernel
theorem dX4_gather_52 : decode cX4_gather 52 = .ok (.laload, 1) := by decide +kernel
theorem dX4_gather_53 : decode cX4_gather 53 = .ok (.lload 4, 2) := by decide +kernel
theorem dX4_gather_55 : decode cX4_gather 55 = .ok (.aload_n 2, 1) := by decide +kernel
theorem dX4_gather_56 : decode cX4_gather 56 = .ok (.getfield 24, 3) := by decide +kernel
theorem dX4_gather_59 : decode cX4_gather 59 = .ok (.iload 8, 2) := by decide +kernel
theorem dX4_gather_61 : decode cX4_gather 61 = .ok (.iload 9, 2) := by decide +kernel
theorem dX4_gather_63 : decode cX4_gather 63 = .ok (.iadd, 1) := by decide +kernel
theorem dX4_gather_64 : decode cX4_gather 64 = .ok (.laload, 1) := by decide +kernel
theorem dX4_gather_65 : decode cX4_gather 65 = .ok (.lmul, 1) := by decide +kernel
theorem dX4_gather_66 : decode cX4_gather 66 = .ok (.ladd, 1) := by decide +kernel
theorem dX4_gather_67 : decode cX4_gather 67 = .ok (.lastore, 1) := by decide +kernel
theorem dX4_gather_68 : decode cX4_gather 68 = .ok (.iinc 9 1, 3) := by decide +kernel
theorem dX4_gather_71 : decode cX4_gather 71 = .ok (.goto (-36), 3) := by decide +kernel
theorem dX4_gather_74 : decode cX4_gather 74 = .ok (.return_, 1) := by decide +kernel
theorem dX4_order_0 : decode cX4_order 0 = .ok (.aload_n 0, 1) := by decide +kernel
theorem dX4_order_1 : decode cX4_order 1 = .ok (.getfield 21, 3) := by decide +kernel
theorem dX4_order_4 : decode cX4_order 4 = .ok (.aload_n 2, 1) := by decide +kernel
theorem dX4_order_5 : decode cX4_order 5 = .ok (.getfield 21, 3) := by decide +kernel
theorem dX4_order_8 : decode cX4_order 8 = .ok (.invokestatic 9, 3) := by decide +kernel
theorem dX4_order_11 : decode cX4_order 11 = .ok (.iconst 1, 1) := by decide +kernel
theorem dX4_order_12 : decode cX4_order 12 = .ok (.isub, 1) := by decide +kernel
theorem dX4_order_13 : decode cX4_order 13 = .ok (.istore 4, 2) := by decide +kernel
theorem dX4_order_15 : decode cX4_order 15 = .ok (.iload 4, 2) := by decide +kernel
theorem dX4_order_17 : decode cX4_order 17 = .ok (.ifCond .lt 36, 3) := by decide +kernel
theorem dX4_order_20 : decode cX4_order 20 = .ok (.aload_n 0, 1) := by decide +kernel
theorem dX4_order_21 : decode cX4_order 21 = .ok (.iload_n 1, 1) := by decide +kernel
theorem dX4_order_22 : decode cX4_order 22 = .ok (.iload 4, 2) := by decide +kernel
theorem dX4_order_24 : decode cX4_order 24 = .ok (.invokevirtual 44, 3) := by decide +kernel
theorem dX4_order_27 : decode cX4_order 27 = .ok (.aload_n 2, 1) := by decide +kernel
theorem dX4_order_28 : decode cX4_order 28 = .ok (.iload_n 3, 1) := by decide +kernel
theorem dX4_order_29 : decode cX4_order 29 = .ok (.iload 4, 2) := by decide +kernel
theorem dX4_order_31 : decode cX4_order 31 = .ok (.invokevirtual 44, 3) := by decide +kernel
theorem dX4_order_34 : decode cX4_order 34 = .ok (.invokestatic 74, 3) := by decide +kernel
theorem dX4_order_37 : decode cX4_order 37 = .ok (.istore 5, 2) := by decide +kernel
theorem dX4_order_39 : decode cX4_order 39 = .ok (.iload 5, 2) := by decide +kernel
theorem dX4_order_41 : decode cX4_order 41 = .ok (.ifCond .eq 6, 3) := by decide +kernel
theorem dX4_order_44 : decode cX4_order 44 = .ok (.iload 5, 2) := by decide +kernel
theorem dX4_order_46 : decode cX4_order 46 = .ok (.ireturn, 1) := by decide +kernel
theorem dX4_order_47 : decode cX4_order 47 = .ok (.iinc 4 (-1), 3) := by decide +kernel
theorem dX4_order_50 : decode cX4_order 50 = .ok (.goto (-35), 3) := by decide +kernel
theorem dX4_order_53 : decode cX4_order 53 = .ok (.iconst 0, 1) := by decide +kernel
theorem dX4_order_54 : decode cX4_order 54 = .ok (.ireturn, 1) := by decide +kernel
theorem dX4_figure_0 : decode cX4_figure 0 = .ok (.iload_n 2, 1) := by decide +kernel
theorem dX4_figure_1 : decode cX4_figure 1 = .ok (.ifCond .ge 5, 3) := by decide +kernel
theorem dX4_figure_4 : decode cX4_figure 4 = .ok (.iconst 0, 1) := by decide +kernel
theorem dX4_figure_5 : decode cX4_figure 5 = .ok (.ireturn, 1) := by decide +kernel
theorem dX4_figure_6 : decode cX4_figure 6 = .ok (.aload_n 0, 1) := by decide +kernel
theorem dX4_figure_7 : decode cX4_figure 7 = .ok (.iload_n 1, 1) := by decide +kernel
theorem dX4_figure_8 : decode cX4_figure 8 = .ok (.iload_n 2, 1) := by decide +kernel
theorem dX4_figure_9 : decode cX4_figure 9 = .ok (.bipush 12, 2) := by decide +kernel
theorem dX4_figure_11 : decode cX4_figure 11 = .ok (.idiv, 1) := by decide +kernel
theorem dX4_figure_12 : decode cX4_figure 12 = .ok (.invokevirtual 44, 3) := by decide +kernel
theorem dX4_figure_15 : decode cX4_figure 15 = .ok (.lstore_n 3, 1) := by decide +kernel
theorem dX4_figure_16 : decode cX4_figure 16 = .ok (.iload_n 2, 1) := by decide +kernel
theorem dX4_figure_17 : decode cX4_figure 17 = .ok (.bipush 12, 2) := by decide +kernel
theorem dX4_figure_19 : decode cX4_figure 19 = .ok (.irem, 1) := by decide +kernel
theorem dX4_figure_20 : decode cX4_figure 20 = .ok (.istore 5, 2) := by decide +kernel
theorem dX4_figure_22 : decode cX4_figure 22 = .ok (.iload 5, 2) := by decide +kernel
theorem dX4_figure_24 : decode cX4_figure 24 = .ok (.ifCond .le 15, 3) := by decide +kernel
theorem dX4_figure_27 : decode cX4_figure 27 = .ok (.lload_n 3, 1) := by decide +kernel
theorem dX4_figure_28 : decode cX4_figure 28 = .ok (.ldc2_w 80, 3) := by decide +kernel
theorem dX4_figure_31 : decode cX4_figure 31 = .ok (.ldiv, 1) := by decide +kernel
theorem dX4_figure_32 : decode cX4_figure 32 = .ok (.lstore_n 3, 1) := by decide +kernel
theorem dX4_figure_33 : decode cX4_figure 33 = .ok (.iinc 5 (-1), 3) := by decide +kernel
theorem dX4_figure_36 : decode cX4_figure 36 = .ok (.goto (-14), 3) := by decide +kernel
theorem dX4_figure_39 : decode cX4_figure 39 = .ok (.lload_n 3, 1) := by decide +kernel
theorem dX4_figure_40 : decode cX4_figure 40 = .ok (.ldc2_w 80, 3) := by decide +kernel
theorem dX4_figure_43 : decode cX4_figure 43 = .ok (.lrem, 1) := by decide +kernel
theorem dX4_figure_44 : decode cX4_figure 44 = .ok (.l2i, 1) := by decide +kernel
theorem dX4_figure_45 : decode cX4_figure 45 = .ok (.ireturn, 1) := by decide +kernel
theorem dX4_read_0 : decode cX4_read 0 = .ok (.aload_n 0, 1) := by decide +kernel
theorem dX4_read_1 : decode cX4_read 1 = .ok (.iload_n 1, 1) := by decide +kernel
theorem dX4_read_2 : decode cX4_read 2 = .ok (.invokevirtual 57, 3) := by decide +kernel
theorem dX4_read_5 : decode cX4_read 5 = .ok (.ifCond .eq 31, 3) := by decide +kernel
theorem dX4_read_8 : decode cX4_read 8 = .ok (.iload_n 2, 1) := by decide +kernel
theorem dX4_read_9 : decode cX4_read 9 = .ok (.ifCond .lt 27, 3) := by decide +kernel
theorem dX4_read_12 : decode cX4_read 12 = .ok (.iload_n 2, 1) := by decide +kernel
theorem dX4_read_13 : decode cX4_read 13 = .ok (.aload_n 0, 1) := by decide +kernel
theorem dX4_read_14 : decode cX4_read 14 = .ok (.getfield 21, 3) := by decide +kernel
theorem dX4_read_17 : decode cX4_read 17 = .ok (.if_icmp .ge 19, 3) := by decide +kernel
theorem dX4_read_20 : decode cX4_read 20 = .ok (.aload_n 0, 1) := by decide +kernel
theorem dX4_read_21 : decode cX4_read 21 = .ok (.getfield 24, 3) := by decide +kernel
theorem dX4_read_24 : decode cX4_read 24 = .ok (.iload_n 1, 1) := by decide +kernel
theorem dX4_read_25 : decode cX4_read 25 = .ok (.aload_n 0, 1) := by decide +kernel
theorem dX4_read_26 : decode cX4_read 26 = .ok (.getfield 21, 3) := by decide +kernel
theorem dX4_read_29 : decode cX4_read 29 = .ok (.imul, 1) := by decide +kernel
theorem dX4_read_30 : decode cX4_read 30 = .ok (.iload_n 2, 1) := by decide +kernel
theorem dX4_read_31 : decode cX4_read 31 = .ok (.iadd, 1) := by decide +kernel
theorem dX4_read_32 : decode cX4_read 32 = .ok (.laload, 1) := by decide +kernel
theorem dX4_read_33 : decode cX4_read 33 = .ok (.goto 4, 3) := by decide +kernel
theorem dX4_read_36 : decode cX4_read 36 = .ok (.lconst 0, 1) := by decide +kernel
theorem dX4_read_37 : decode cX4_read 37 = .ok (.lreturn, 1) := by decide +kernel
theorem dX4_write_0 : decode cX4_write 0 = .ok (.aload_n 0, 1) := by decide +kernel
theorem dX4_write_1 : decode cX4_write 1 = .ok (.iload_n 1, 1) := by decide +kernel
theorem dX4_write_2 : decode cX4_write 2 = .ok (.invokevirtual 57, 3) := by decide +kernel
theorem dX4_write_5 : decode cX4_write 5 = .ok (.ifCond .eq 29, 3) := by decide +kernel
theorem dX4_write_8 : decode cX4_write 8 = .ok (.iload_n 2, 1) := by decide +kernel
theorem dX4_write_9 : decode cX4_write 9 = .ok (.ifCond .lt 25, 3) := by decide +kernel
theorem dX4_write_12 : decode cX4_write 12 = .ok (.iload_n 2, 1) := by decide +kernel
theorem dX4_write_13 : decode cX4_write 13 = .ok (.aload_n 0, 1) := by decide +kernel
theorem dX4_write_14 : decode cX4_write 14 = .ok (.getfield 21, 3) := by decide +kernel
theorem dX4_write_17 : decode cX4_write 17 = .ok (.if_icmp .ge 17, 3) := by decide +kernel
theorem dX4_write_20 : decode cX4_write 20 = .ok (.aload_n 0, 1) := by decide +kernel
theorem dX4_write_21 : decode cX4_write 21 = .ok (.getfield 24, 3) := by decide +kernel
theorem dX4_write_24 : decode cX4_write 24 = .ok (.iload_n 1, 1) := by decide +kernel
theorem dX4_write_25 : decode cX4_write 25 = .ok (.aload_n 0, 1) := by decide +kernel
theorem dX4_write_26 : decode cX4_write 26 = .ok (.getfield 21, 3) := by decide +kernel
theorem dX4_write_29 : decode cX4_write 29 = .ok (.imul, 1) := by decide +kernel
theorem dX4_write_30 : decode cX4_write 30 = .ok (.iload_n 2, 1) := by decide +kernel
theorem dX4_write_31 : decode cX4_write 31 = .ok (.iadd, 1) := by decide +kernel
theorem dX4_write_32 : decode cX4_write 32 = .ok (.lload_n 3, 1) := by decide +kernel
theorem dX4_write_33 : decode cX4_write 33 = .ok (.lastore, 1) := by decide +kernel
theorem dX4_write_34 : decode cX4_write 34 = .ok (.return_, 1) := by decide +kernel
theorem dX5_init_0 : decode cX5_init 0 = .ok (.aload_n 0, 1) := by decide +kernel
theorem dX5_init_1 : decode cX5_init 1 = .ok (.invokespecial 3, 3) := by decide +kernel
theorem dX5_init_4 : decode cX5_init 4 = .ok (.aload_n 0, 1) := by decide +kernel
theorem dX5_init_5 : decode cX5_init 5 = .ok (.new 9, 3) := by decide +kernel
theorem dX5_init_8 : decode cX5_init 8 = .ok (.dup, 1) := by decide +kernel
theorem dX5_init_9 : decode cX5_init 9 = .ok (.invokespecial 11, 3) := by decide +kernel
theorem dX5_init_12 : decode cX5_init 12 = .ok (.putfield 12, 3) := by decide +kernel
theorem dX5_init_15 : decode cX5_init 15 = .ok (.aload_n 0, 1) := by decide +kernel
theorem dX5_init_16 : decode cX5_init 16 = .ok (.new 18, 3) := by decide +kernel
theorem dX5_init_19 : decode cX5_init 19 = .ok (.dup, 1) := by decide +kernel
theorem dX5_init_20 : decode cX5_init 20 = .ok (.iconst 1, 1) := by decide +kernel
theorem dX5_init_21 : decode cX5_init 21 = .ok (.bipush 11, 2) := by decide +kernel
theorem dX5_init_23 : decode cX5_init 23 = .ok (.invokespecial 20, 3) := by decide +kernel
theorem dX5_init_26 : decode cX5_init 26 = .ok (.putfield 23, 3) := by decide +kernel
theorem dX5_init_29 : decode cX5_init 29 = .ok (.aload_n 0, 1) := by decide +kernel
theorem dX5_init_30 : decode cX5_init 30 = .ok (.new 18, 3) := by decide +kernel
theorem dX5_init_33 : decode cX5_init 33 = .ok (.dup, 1) := by decide +kernel
theorem dX5_init_34 : decode cX5_init 34 = .ok (.iconst 1, 1) := by decide +kernel
theorem dX5_init_35 : decode cX5_init 35 = .ok (.bipush 11, 2) := by decide +kernel
theorem dX5_init_37 : decode cX5_init 37 = .ok (.invokespecial 20, 3) := by decide +kernel
theorem dX5_init_40 : decode cX5_init 40 = .ok (.putfield 27, 3) := by decide +kernel
theorem dX5_init_43 : decode cX5_init 43 = .ok (.aload_n 0, 1) := by decide +kernel
theorem dX5_init_44 : decode cX5_init 44 = .ok (.new 18, 3) := by decide +kernel
theorem dX5_init_47 : decode cX5_init 47 = .ok (.dup, 1) := by decide +kernel
theorem dX5_init_48 : decode cX5_init 48 = .ok (.sipush 256, 3) := by decide +kernel
theorem dX5_init_51 : decode cX5_init 51 = .ok (.bipush 11, 2) := by decide +kernel
theorem dX5_init_53 : decode cX5_init 53 = .ok (.invokespecial 20, 3) := by decide +kernel
theorem dX5_init_56 : decode cX5_init 56 = .ok (.putfield 30, 3) := by decide +kernel
theorem dX5_init_59 : decode cX5_init 59 = .ok (.aload_n 0, 1) := by decide +kernel
theorem dX5_init_60 : decode cX5_init 60 = .ok (.new 18, 3) := by decide +kernel
theorem dX5_init_63 : decode cX5_init 63 = .ok (.dup, 1) := by decide +kernel
theorem dX5_init_64 : decode cX5_init 64 = .ok (.sipush 256, 3) := by decide +kernel
theorem dX5_init_67 : decode cX5_init 67 = .ok (.bipush 11, 2) := by decide +kernel
theorem dX5_init_69 : decode cX5_init 69 = .ok (.invokespecial 20, 3) := by decide +kernel
theorem dX5_init_72 : decode cX5_init 72 = .ok (.putfield 33, 3) := by decide +kernel
theorem dX5_init_75 : decode cX5_init 75 = .ok (.aload_n 0, 1) := by decide +kernel
theorem dX5_init_76 : decode cX5_init 76 = .ok (.iconst 0, 1) := by decide +kernel
theorem dX5_init_77 : decode cX5_init 77 = .ok (.putfield 36, 3) := by decide +kernel
theorem dX5_init_80 : decode cX5_init 80 = .ok (.aload_n 0, 1) := by decide +kernel
theorem dX5_init_81 : decode cX5_init 81 = .ok (.iconst 0, 1) := by decide +kernel
theorem dX5_init_82 : decode cX5_init 82 = .ok (.putfield 40, 3) := by decide +kernel
theorem dX5_init_85 : decode cX5_init 85 = .ok (.aload_n 0, 1) := by decide +kernel
theorem dX5_init_86 : decode cX5_init 86 = .ok (.iconst 0, 1) := by decide +kernel
theorem dX5_init_87 : decode cX5_init 87 = .ok (.putfield 43, 3) := by decide +kernel
theorem dX5_init_90 : decode cX5_init 90 = .ok (.aload_n 0, 1) := by decide +kernel
theorem dX5_init_91 : decode cX5_init 91 = .ok (.iconst 0, 1) := by decide +kernel
theorem dX5_init_92 : decode cX5_init 92 = .ok (.putfield 46, 3) := by decide +kernel
theorem dX5_init_95 : decode cX5_init 95 = .ok (.return_, 1) := by decide +kernel
theorem dX5_begin_0 : decode cX5_begin 0 = .ok (.aload_n 0, 1) := by decide +kernel
theorem dX5_begin_1 : decode cX5_begin 1 = .ok (.iload_n 2, 1) := by decide +kernel
theorem dX5_begin_2 : decode cX5_begin 2 = .ok (.putfield 36, 3) := by decide +kernel
theorem dX5_begin_5 : decode cX5_begin 5 = .ok (.aload_n 0, 1) := by decide +kernel
theorem dX5_begin_6 : decode cX5_begin 6 = .ok (.iload_n 3, 1) := by decide +kernel
theorem dX5_begin_7 : decode cX5_begin 7 = .ok (.putfield 40, 3) := by decide +kernel
theorem dX5_begin_10 : decode cX5_begin 10 = .ok (.aload_n 0, 1) := by decide +kernel
theorem dX5_begin_11 : decode cX5_begin 11 = .ok (.iload_n 1, 1) := by decide +kernel
theorem dX5_begin_12 : decode cX5_begin 12 = .ok (.putfield 43, 3) := by decide +kernel
theorem dX5_begin_15 : decode cX5_begin 15 = .ok (.aload_n 0, 1) := by decide +kernel
theorem dX5_begin_16 : decode cX5_begin 16 = .ok (.iload 5, 2) := by decide +kernel
theorem dX5_begin_18 : decode cX5_begin 18 = .ok (.putfield 46, 3) := by decide +kernel
theorem dX5_begin_21 : decode cX5_begin 21 = .ok (.aload_n 0, 1) := by decide +kernel
theorem dX5_begin_22 : decode cX5_begin 22 = .ok (.getfield 23, 3) := by decide +kernel
theorem dX5_begin_25 : decode cX5_begin 25 = .ok (.invokevirtual 49, 3) := by decide +kernel
theorem dX5_begin_28 : decode cX5_begin 28 = .ok (.aload_n 0, 1) := by decide +kernel
theorem dX5_begin_29 : decode cX5_begin 29 = .ok (.getfield 30, 3) := by decide +kernel
theorem dX5_begin_32 : decode cX5_begin 32 = .ok (.invokevirtual 49, 3) := by decide +kernel
theorem dX5_begin_35 : decode cX5_begin 35 = .ok (.aload_n 0, 1) := by decide +kernel
theorem dX5_begin_36 : decode cX5_begin 36 = .ok (.getfield 33, 3) := by decide +kernel
theorem dX5_begin_39 : decode cX5_begin 39 = .ok (.invokevirtual 49, 3) := by decide +kernel
theorem dX5_begin_42 : decode cX5_begin 42 = .ok (.aload_n 0, 1) := by decide +kernel
theorem dX5_begin_43 : decode cX5_begin 43 = .ok (.getfield 30, 3) := by decide +kernel
theorem dX5_begin_46 : decode cX5_begin 46 = .ok (.aload_n 0, 1) := by decide +kernel
theorem dX5_begin_47 : decode cX5_begin 47 = .ok (.invokevirtual 52, 3) := by decide +kernel
theorem dX5_begin_50 : decode cX5_begin 50 = .ok (.invokevirtual 56, 3) := by decide +kernel
theorem dX5_begin_53 : decode cX5_begin 53 = .ok (.aload_n 0, 1) := by decide +kernel
theorem dX5_begin_54 : decode cX5_begin 54 = .ok (.getfield 30, 3) := by decide +kernel
theorem dX5_begin_57 : decode cX5_begin 57 = .ok (.iload_n 1, 1) := by decide +kernel
theorem dX5_begin_58 : decode cX5_begin 58 = .ok (.aload 4, 2) := by decide +kernel
theorem dX5_begin_60 : decode cX5_begin 60 = .ok (.iconst 0, 1) := by decide +kernel
theorem dX5_begin_61 : decode cX5_begin 61 = .ok (.invokevirtual 60, 3) := by decide +kernel
theorem dX5_begin_64 : decode cX5_begin 64 = .ok (.return_, 1) := by decide +kernel
theorem dX5_fall_0 : decode cX5_fall 0 = .ok (.aload_n 0, 1) := by decide +kernel
theorem dX5_fall_1 : decode cX5_fall 1 = .ok (.getfield 23, 3) := by decide +kernel
theorem dX5_fall_4 : decode cX5_fall 4 = .ok (.iconst 0, 1) := by decide +kernel
theorem dX5_fall_5 : decode cX5_fall 5 = .ok (.aload_n 0, 1) := by decide +kernel
theorem dX5_fall_6 : decode cX5_fall 6 = .ok (.getfield 30, 3) := by decide +kernel
theorem dX5_fall_9 : decode cX5_fall 9 = .ok (.iload_n 1, 1) := by decide +kernel
theorem dX5_fall_10 : decode cX5_fall 10 = .ok (.ineg, 1) := by decide +kernel
theorem dX5_fall_11 : decode cX5_fall 11 = .ok (.aload_n 0, 1) := by decide +kernel
theorem dX5_fall_12 : decode cX5_fall 12 = .ok (.getfield 36, 3) := by decide +kernel
theorem dX5_fall_15 : decode cX5_fall 15 = .ok (.isub, 1) := by decide +kernel
theorem dX5_fall_16 : decode cX5_fall 16 = .ok (.iconst 1, 1) := by decide +kernel
theorem dX5_fall_17 : decode cX5_fall 17 = .ok (.aload_n 0, 1) := by decide +kernel
theorem dX5_fall_18 : decode cX5_fall 18 = .ok (.getfield 12, 3) := by decide +kernel
theorem dX5_fall_21 : decode cX5_fall 21 = .ok (.aload_n 0, 1) := by decide +kernel
theorem dX5_fall_22 : decode cX5_fall 22 = .ok (.invokevirtual 64, 3) := by decide +kernel
theorem dX5_fall_25 : decode cX5_fall 25 = .ok (.invokevirtual 67, 3) := by decide +kernel
theorem dX5_fall_28 : decode cX5_fall 28 = .ok (.return_, 1) := by decide +kernel
theorem dX5_tick_0 : decode cX5_tick 0 = .ok (.aload_n 0, 1) := by decide +kernel
theorem dX5_tick_1 : decode cX5_tick 1 = .ok (.invokevirtual 64, 3) := by decide +kernel
theorem dX5_tick_4 : decode cX5_tick 4 = .ok (.istore_n 1, 1) := by decide +kernel
theorem dX5_tick_5 : decode cX5_tick 5 = .ok (.aload_n 0, 1) := by decide +kernel
theorem dX5_tick_6 : decode cX5_tick 6 = .ok (.dup, 1) := by decide +kernel
theorem dX5_tick_7 : decode cX5_tick 7 = .ok (.getfield 40, 3) := by decide +kernel
theorem dX5_tick_10 : decode cX5_tick 10 = .ok (.iconst 1, 1) := by decide +kernel
theorem dX5_tick_11 : decode cX5_tick 11 = .ok (.isub, 1) := by decide +kernel
theorem dX5_tick_12 : decode cX5_tick 12 = .ok (.putfield 40, 3) := by decide +kernel
theorem dX5_tick_15 : decode cX5_tick 15 = .ok (.aload_n 0, 1) := by decide +kernel
theorem dX5_tick_16 : decode cX5_tick 16 = .ok (.dup, 1) := by decide +kernel
theorem dX5_tick_17 : decode cX5_tick 17 = .ok (.getfield 43, 3) := by decide +kernel
theorem dX5_tick_20 : decode cX5_tick 20 = .ok (.aload_n 0, 1) := by decide +kernel
theorem dX5_tick_21 : decode cX5_tick 21 = .ok (.getfield 36, 3) := by decide +kernel
theorem dX5_tick_24 : decode cX5_tick 24 = .ok (.iadd, 1) := by decide +kernel
theorem dX5_tick_25 : decode cX5_tick 25 = .ok (.putfield 43, 3) := by decide +kernel
theorem dX5_tick_28 : decode cX5_tick 28 = .ok (.aload_n 0, 1) := by decide +kernel
theorem dX5_tick_29 : decode cX5_tick 29 = .ok (.getfield 33, 3) := by decide +kernel
theorem dX5_tick_32 : decode cX5_tick 32 = .ok (.aload_n 0, 1) := by decide +kernel
theorem dX5_tick_33 : decode cX5_tick 33 = .ok (.invokevirtual 52, 3) := by decide +kernel
theorem dX5_tick_36 : decode cX5_tick 36 = .ok (.invokevirtual 56, 3) := by decide +kernel
theorem dX5_tick_39 : decode cX5_tick 39 = .ok (.iconst 0, 1) := by decide +kernel
theorem dX5_tick_40 : decode cX5_tick 40 = .ok (.istore_n 2, 1) := by decide +kernel
theorem dX5_tick_41 : decode cX5_tick 41 = .ok (.iload_n 2, 1) := by decide +kernel
theorem dX5_tick_42 : decode cX5_tick 42 = .ok (.aload_n 0, 1) := by decide +kernel
theorem dX5_tick_43 : decode cX5_tick 43 = .ok (.getfield 33, 3) := by decide +kernel
theorem dX5_tick_46 : decode cX5_tick 46 = .ok (.getfield 71, 3) := by decide +kernel
theorem dX5_tick_49 : decode cX5_tick 49 = .ok (.if_icmp .ge 33, 3) := by decide +kernel
theorem dX5_tick_52 : decode cX5_tick 52 = .ok (.aload_n 0, 1) := by decide +kernel
theorem dX5_tick_53 : decode cX5_tick 53 = .ok (.getfield 33, 3) := by decide +kernel
theorem dX5_tick_56 : decode cX5_tick 56 = .ok (.iload_n 2, 1) := by decide +kernel
theorem dX5_tick_57 : decode cX5_tick 57 = .ok (.aload_n 0, 1) := by decide +kernel
theorem dX5_tick_58 : decode cX5_tick 58 = .ok (.getfield 30, 3) := by decide +kernel
theorem dX5_tick_61 : decode cX5_tick 61 = .ok (.iload_n 2, 1) := by decide +kernel
theorem dX5_tick_62 : decode cX5_tick 62 = .ok (.aload_n 0, 1) := by decide +kernel
theorem dX5_tick_63 : decode cX5_tick 63 = .ok (.getfield 36, 3) := by decide +kernel
theorem dX5_tick_66 : decode cX5_tick 66 = .ok (.isub, 1) := by decide +kernel
theorem dX5_tick_67 : decode cX5_tick 67 = .ok (.iconst 1, 1) := by decide +kernel
theorem dX5_tick_68 : decode cX5_tick 68 = .ok (.aload_n 0, 1) := by decide +kernel
theorem dX5_tick_69 : decode cX5_tick 69 = .ok (.getfield 12, 3) := by decide +kernel
theorem dX5_tick_72 : decode cX5_tick 72 = .ok (.iload_n 1, 1) := by decide +kernel
theorem dX5_tick_73 : decode cX5_tick 73 = .ok (.invokevirtual 67, 3) := by decide +kernel
theorem dX5_tick_76 : decode cX5_tick 76 = .ok (.iinc 2 1, 3) := by decide +kernel
theorem dX5_tick_79 : decode cX5_tick 79 = .ok (.goto (-38), 3) := by decide +kernel
theorem dX5_tick_82 : decode cX5_tick 82 = .ok (.aload_n 0, 1) := by decide +kernel
theorem dX5_tick_83 : decode cX5_tick 83 = .ok (.dup, 1) := by decide +kernel
theorem dX5_tick_84 : decode cX5_tick 84 = .ok (.getfield 46, 3) := by decide +kernel
theorem dX5_tick_87 : decode cX5_tick 87 = .ok (.aload_n 0, 1) := by decide +kernel
theorem dX5_tick_88 : decode cX5_tick 88 = .ok (.getfield 12, 3) := by decide +kernel
theorem dX5_tick_91 : decode cX5_tick 91 = .ok (.getfield 74, 3) := by decide +kernel
theorem dX5_tick_94 : decode cX5_tick 94 = .ok (.iadd, 1) := by decide +kernel
theorem dX5_tick_95 : decode cX5_tick 95 = .ok (.putfield 46, 3) := by decide +kernel
theorem dX5_tick_98 : decode cX5_tick 98 = .ok (.aload_n 0, 1) := by decide +kernel
theorem dX5_tick_99 : decode cX5_tick 99 = .ok (.getfield 30, 3) := by decide +kernel
theorem dX5_tick_102 : decode cX5_tick 102 = .ok (.astore_n 2, 1) := by decide +kernel
theorem dX5_tick_103 : decode cX5_tick 103 = .ok (.aload_n 0, 1) := by decide +kernel
theorem dX5_tick_104 : decode cX5_tick 104 = .ok (.aload_n 0, 1) := by decide +kernel
theorem dX5_tick_105 : decode cX5_tick 105 = .ok (.getfield 33, 3) := by decide +kernel
theorem dX5_tick_108 : decode cX5_tick 108 = .ok (.putfield 30, 3) := by decide +kernel
theorem dX5_tick_111 : decode cX5_tick 111 = .ok (.aload_n 0, 1) := by decide +kernel
theorem dX5_tick_112 : decode cX5_tick 112 = .ok (.aload_n 2, 1) := by decide +kernel
theorem dX5_tick_113 : decode cX5_tick 113 = .ok (.putfield 33, 3) := by decide +kernel
theorem dX5_tick_116 : decode cX5_tick 116 = .ok (.return_, 1) := by decide +kernel
theorem dX5_sumUp_0 : decode cX5_sumUp 0 = .ok (.aload_n 0, 1) := by decide +kernel
theorem dX5_sumUp_1 : decode cX5_sumUp 1 = .ok (.getfield 27, 3) := by decide +kernel
theorem dX5_sumUp_4 : decode cX5_sumUp 4 = .ok (.invokevirtual 49, 3) := by decide +kernel
theorem dX5_sumUp_7 : decode cX5_sumUp 7 = .ok (.aload_n 0, 1) := by decide +kernel
theorem dX5_sumUp_8 : decode cX5_sumUp 8 = .ok (.getfield 40, 3) := by decide +kernel
theorem dX5_sumUp_11 : decode cX5_sumUp 11 = .ok (.istore_n 1, 1) := by decide +kernel
theorem dX5_sumUp_12 : decode cX5_sumUp 12 = .ok (.iconst 0, 1) := by decide +kernel
theorem dX5_sumUp_13 : decode cX5_sumUp 13 = .ok (.istore_n 2, 1) := by decide +kernel
theorem dX5_sumUp_14 : decode cX5_sumUp 14 = .ok (.iload_n 2, 1) := by decide +kernel
theorem dX5_sumUp_15 : decode cX5_sumUp 15 = .ok (.iload_n 1, 1) := by decide +kernel
theorem dX5_sumUp_16 : decode cX5_sumUp 16 = .ok (.if_icmp .ge 73, 3) := by decide +kernel
theorem dX5_sumUp_19 : decode cX5_sumUp 19 = .ok (.aload_n 0, 1) := by decide +kernel
theorem dX5_sumUp_20 : decode cX5_sumUp 20 = .ok (.getfield 27, 3) := by decide +kernel
theorem dX5_sumUp_23 : decode cX5_sumUp 23 = .ok (.iconst 0, 1) := by decide +kernel
theorem dX5_sumUp_24 : decode cX5_sumUp 24 = .ok (.aload_n 0, 1) := by decide +kernel
theorem dX5_sumUp_25 : decode cX5_sumUp 25 = .ok (.getfield 12, 3) := by decide +kernel
theorem dX5_sumUp_28 : decode cX5_sumUp 28 = .ok (.getfield 75, 3) := by decide +kernel
theorem dX5_sumUp_31 : decode cX5_sumUp 31 = .ok (.lconst 0, 1) := by decide +kernel
theorem dX5_sumUp_32 : decode cX5_sumUp 32 = .ok (.invokevirtual 79, 3) := by decide +kernel
theorem dX5_sumUp_35 : decode cX5_sumUp 35 = .ok (.iconst 1, 1) := by decide +kernel
theorem dX5_sumUp_36 : decode cX5_sumUp 36 = .ok (.istore_n 3, 1) := by decide +kernel
theorem dX5_sumUp_37 : decode cX5_sumUp 37 = .ok (.iload_n 3, 1) := by decide +kernel
theorem dX5_sumUp_38 : decode cX5_sumUp 38 = .ok (.aload_n 0, 1) := by decide +kernel
theorem dX5_sumUp_39 : decode cX5_sumUp 39 = .ok (.getfield 12, 3) := by decide +kernel
theorem dX5_sumUp_42 : decode cX5_sumUp 42 = .ok (.getfield 83, 3) := by decide +kernel
theorem dX5_sumUp_45 : decode cX5_sumUp 45 = .ok (.aload_n 0, 1) := by decide +kernel
theorem dX5_sumUp_46 : decode cX5_sumUp 46 = .ok (.getfield 36, 3) := by decide +kernel
theorem dX5_sumUp_49 : decode cX5_sumUp 49 = .ok (.isub, 1) := by decide +kernel
theorem dX5_sumUp_50 : decode cX5_sumUp 50 = .ok (.if_icmp .gt 29, 3) := by decide +kernel
theorem dX5_sumUp_53 : decode cX5_sumUp 53 = .ok (.aload_n 0, 1) := by decide +kernel
theorem dX5_sumUp_54 : decode cX5_sumUp 54 = .ok (.iload_n 3, 1) := by decide +kernel
theorem dX5_sumUp_55 : decode cX5_sumUp 55 = .ok (.invokevirtual 86, 3) := by decide +kernel
theorem dX5_sumUp_58 : decode cX5_sumUp 58 = .ok (.aload_n 0, 1) := by decide +kernel
theorem dX5_sumUp_59 : decode cX5_sumUp 59 = .ok (.getfield 27, 3) := by decide +kernel
theorem dX5_sumUp_62 : decode cX5_sumUp 62 = .ok (.iconst 0, 1) := by decide +kernel
theorem dX5_sumUp_63 : decode cX5_sumUp 63 = .ok (.lconst 1, 1) := by decide +kernel
theorem dX5_sumUp_64 : decode cX5_sumUp 64 = .ok (.aload_n 0, 1) := by decide +kernel
theorem dX5_sumUp_65 : decode cX5_sumUp 65 = .ok (.getfield 23, 3) := by decide +kernel
theorem dX5_sumUp_68 : decode cX5_sumUp 68 = .ok (.iconst 0, 1) := by decide +kernel
theorem dX5_sumUp_69 : decode cX5_sumUp 69 = .ok (.lconst 1, 1) := by decide +kernel
theorem dX5_sumUp_70 : decode cX5_sumUp 70 = .ok (.invokevirtual 89, 3) := by decide +kernel
theorem dX5_sumUp_73 : decode cX5_sumUp 73 = .ok (.iinc 3 1, 3) := by decide +kernel
theorem dX5_sumUp_76 : decode cX5_sumUp 76 = .ok (.goto (-39), 3) := by decide +kernel
theorem dX5_sumUp_79 : decode cX5_sumUp 79 = .ok (.aload_n 0, 1) := by decide +kernel
theorem dX5_sumUp_80 : decode cX5_sumUp 80 = .ok (.invokevirtual 93, 3) := by decide +kernel
theorem dX5_sumUp_83 : decode cX5_sumUp 83 = .ok (.iinc 2 1, 3) := by decide +kernel
theorem dX5_sumUp_86 : decode cX5_sumUp 86 = .ok (.goto (-72), 3) := by decide +kernel
theorem dX5_sumUp_89 : decode cX5_sumUp 89 = .ok (.return_, 1) := by decide +kernel
theorem dX5_liveRows_0 : decode cX5_liveRows 0 = .ok (.aload_n 0, 1) := by decide +kernel
theorem dX5_liveRows_1 : decode cX5_liveRows 1 = .ok (.getfield 43, 3) := by decide +kernel
theorem dX5_liveRows_4 : decode cX5_liveRows 4 = .ok (.iconst 1, 1) := by decide +kernel
theorem dX5_liveRows_5 : decode cX5_liveRows 5 = .ok (.iadd, 1) := by decide +kernel
theorem dX5_liveRows_6 : decode cX5_liveRows 6 = .ok (.aload_n 0, 1) := by decide +kernel
theorem dX5_liveRows_7 : decode cX5_liveRows 7 = .ok (.getfield 40, 3) := by decide +kernel
theorem dX5_liveRows_10 : decode cX5_liveRows 10 = .ok (.aload_n 0, 1) := by decide +kernel
theorem dX5_liveRows_11 : decode cX5_liveRows 11 = .ok (.getfield 12, 3) := by decide +kernel
theorem dX5_liveRows_14 : decode cX5_liveRows 14 = .ok (.getfield 83, 3) := by decide +kernel
theorem dX5_liveRows_17 : decode cX5_liveRows 17 = .ok (.aload_n 0, 1) := by decide +kernel
theorem dX5_liveRows_18 : decode cX5_liveRows 18 = .ok (.getfield 36, 3) := by decide +kernel
theorem dX5_liveRows_21 : decode cX5_liveRows 21 = .ok (.isub, 1) := by decide +kernel
theorem dX5_liveRows_22 : decode cX5_liveRows 22 = .ok (.imul, 1) := by decide +kernel
theorem dX5_liveRows_23 : decode cX5_liveRows 23 = .ok (.invokestatic 96, 3) := by decide +kernel
theorem dX5_liveRows_26 : decode cX5_liveRows 26 = .ok (.ireturn, 1) := by decide +kernel
theorem dX5_nextLimbs_0 : decode cX5_nextLimbs 0 = .ok (.aload_n 0, 1) := by decide +kernel
theorem dX5_nextLimbs_1 : decode cX5_nextLimbs 1 = .ok (.getfield 46, 3) := by decide +kernel
theorem dX5_nextLimbs_4 : decode cX5_nextLimbs 4 = .ok (.aload_n 0, 1) := by decide +kernel
theorem dX5_nextLimbs_5 : decode cX5_nextLimbs 5 = .ok (.getfield 12, 3) := by decide +kernel
theorem dX5_nextLimbs_8 : decode cX5_nextLimbs 8 = .ok (.getfield 74, 3) := by decide +kernel
theorem dX5_nextLimbs_11 : decode cX5_nextLimbs 11 = .ok (.iadd, 1) := by decide +kernel
theorem dX5_nextLimbs_12 : decode cX5_nextLimbs 12 = .ok (.bipush 12, 2) := by decide +kernel
theorem dX5_nextLimbs_14 : decode cX5_nextLimbs 14 = .ok (.idiv, 1) := by decide +kernel
theorem dX5_nextLimbs_15 : decode cX5_nextLimbs 15 = .ok (.iconst 1, 1) := by decide +kernel
theorem dX5_nextLimbs_16 : decode cX5_nextLimbs 16 = .ok (.iadd, 1) := by decide +kernel
theorem dX5_nextLimbs_17 : decode cX5_nextLimbs 17 = .ok (.ireturn, 1) := by decide +kernel
theorem dX6_init_0 : decode cX6_init 0 = .ok (.aload_n 0, 1) := by decide +kernel
theorem dX6_init_1 : decode cX6_init 1 = .ok (.invokespecial 1, 3) := by decide +kernel
theorem dX6_init_4 : decode cX6_init 4 = .ok (.aload_n 0, 1) := by decide +kernel
theorem dX6_init_5 : decode cX6_init 5 = .ok (.bipush 8, 2) := by decide +kernel
theorem dX6_init_7 : decode cX6_init 7 = .ok (.anewarray 9, 3) := by decide +kernel
theorem dX6_init_10 : decode cX6_init 10 = .ok (.putfield 11, 3) := by decide +kernel
theorem dX6_init_13 : decode cX6_init 13 = .ok (.aload_n 0, 1) := by decide +kernel
theorem dX6_init_14 : decode cX6_init 14 = .ok (.bipush 21, 2) := by decide +kernel
theorem dX6_init_16 : decode cX6_init 16 = .ok (.newarray .int, 2) := by decide +kernel
theorem dX6_init_18 : decode cX6_init 18 = .ok (.putfield 15, 3) := by decide +kernel
theorem dX6_init_21 : decode cX6_init 21 = .ok (.aload_n 0, 1) := by decide +kernel
theorem dX6_init_22 : decode cX6_init 22 = .ok (.new 19, 3) := by decide +kernel
theorem dX6_init_25 : decode cX6_init 25 = .ok (.dup, 1) := by decide +kernel
theorem dX6_init_26 : decode cX6_init 26 = .ok (.invokespecial 21, 3) := by decide +kernel
theorem dX6_init_29 : decode cX6_init 29 = .ok (.putfield 22, 3) := by decide +kernel
theorem dX6_init_32 : decode cX6_init 32 = .ok (.aload_n 0, 1) := by decide +kernel
theorem dX6_init_33 : decode cX6_init 33 = .ok (.new 26, 3) := by decide +kernel
end
section
theorem dX6_init_36 : decode cX6_init 36 = .ok (.dup, 1) := by decide +kernel
theorem dX6_init_37 : decode cX6_init 37 = .ok (.invokespecial 28, 3) := by decide +kernel
theorem dX6_init_40 : decode cX6_init 40 = .ok (.putfield 29, 3) := by decide +kernel
theorem dX6_init_43 : decode cX6_init 43 = .ok (.aload_n 0, 1) := by decide +kernel
theorem dX6_init_44 : decode cX6_init 44 = .ok (.new 33, 3) := by decide +kernel
theorem dX6_init_47 : decode cX6_init 47 = .ok (.dup, 1) := by decide +kernel
theorem dX6_init_48 : decode cX6_init 48 = .ok (.invokespecial 35, 3) := by decide +kernel
theorem dX6_init_51 : decode cX6_init 51 = .ok (.putfield 36, 3) := by decide +kernel
theorem dX6_init_54 : decode cX6_init 54 = .ok (.aload_n 0, 1) := by decide +kernel
theorem dX6_init_55 : decode cX6_init 55 = .ok (.new 40, 3) := by decide +kernel
theorem dX6_init_58 : decode cX6_init 58 = .ok (.dup, 1) := by decide +kernel
theorem dX6_init_59 : decode cX6_init 59 = .ok (.iconst 1, 1) := by decide +kernel
theorem dX6_init_60 : decode cX6_init 60 = .ok (.bipush 11, 2) := by decide +kernel
theorem dX6_init_62 : decode cX6_init 62 = .ok (.invokespecial 42, 3) := by decide +kernel
theorem dX6_init_65 : decode cX6_init 65 = .ok (.putfield 45, 3) := by decide +kernel
theorem dX6_init_68 : decode cX6_init 68 = .ok (.aload_n 0, 1) := by decide +kernel
theorem dX6_init_69 : decode cX6_init 69 = .ok (.new 40, 3) := by decide +kernel
theorem dX6_init_72 : decode cX6_init 72 = .ok (.dup, 1) := by decide +kernel
theorem dX6_init_73 : decode cX6_init 73 = .ok (.iconst 1, 1) := by decide +kernel
theorem dX6_init_74 : decode cX6_init 74 = .ok (.bipush 11, 2) := by decide +kernel
theorem dX6_init_76 : decode cX6_init 76 = .ok (.invokespecial 42, 3) := by decide +kernel
theorem dX6_init_79 : decode cX6_init 79 = .ok (.putfield 49, 3) := by decide +kernel
theorem dX6_init_82 : decode cX6_init 82 = .ok (.aload_n 0, 1) := by decide +kernel
theorem dX6_init_83 : decode cX6_init 83 = .ok (.new 40, 3) := by decide +kernel
theorem dX6_init_86 : decode cX6_init 86 = .ok (.dup, 1) := by decide +kernel
theorem dX6_init_87 : decode cX6_init 87 = .ok (.bipush 41, 2) := by decide +kernel
theorem dX6_init_89 : decode cX6_init 89 = .ok (.bipush 11, 2) := by decide +kernel
theorem dX6_init_91 : decode cX6_init 91 = .ok (.invokespecial 42, 3) := by decide +kernel
theorem dX6_init_94 : decode cX6_init 94 = .ok (.putfield 52, 3) := by decide +kernel
theorem dX6_init_97 : decode cX6_init 97 = .ok (.aload_n 0, 1) := by decide +kernel
theorem dX6_init_98 : decode cX6_init 98 = .ok (.new 40, 3) := by decide +kernel
theorem dX6_init_101 : decode cX6_init 101 = .ok (.dup, 1) := by decide +kernel
theorem dX6_init_102 : decode cX6_init 102 = .ok (.bipush 21, 2) := by decide +kernel
theorem dX6_init_104 : decode cX6_init 104 = .ok (.bipush 11, 2) := by decide +kernel
theorem dX6_init_106 : decode cX6_init 106 = .ok (.invokespecial 42, 3) := by decide +kernel
theorem dX6_init_109 : decode cX6_init 109 = .ok (.putfield 55, 3) := by decide +kernel
theorem dX6_init_112 : decode cX6_init 112 = .ok (.aload_n 0, 1) := by decide +kernel
theorem dX6_init_113 : decode cX6_init 113 = .ok (.iconst 0, 1) := by decide +kernel
theorem dX6_init_114 : decode cX6_init 114 = .ok (.putfield 58, 3) := by decide +kernel
theorem dX6_init_117 : decode cX6_init 117 = .ok (.aload_n 0, 1) := by decide +kernel
theorem dX6_init_118 : decode cX6_init 118 = .ok (.iconst 0, 1) := by decide +kernel
theorem dX6_init_119 : decode cX6_init 119 = .ok (.putfield 62, 3) := by decide +kernel
theorem dX6_init_122 : decode cX6_init 122 = .ok (.iconst 0, 1) := by decide +kernel
theorem dX6_init_123 : decode cX6_init 123 = .ok (.istore_n 1, 1) := by decide +kernel
theorem dX6_init_124 : decode cX6_init 124 = .ok (.iload_n 1, 1) := by decide +kernel
theorem dX6_init_125 : decode cX6_init 125 = .ok (.bipush 8, 2) := by decide +kernel
theorem dX6_init_127 : decode cX6_init 127 = .ok (.if_icmp .ge 22, 3) := by decide +kernel
theorem dX6_init_130 : decode cX6_init 130 = .ok (.aload_n 0, 1) := by decide +kernel
theorem dX6_init_131 : decode cX6_init 131 = .ok (.getfield 11, 3) := by decide +kernel
theorem dX6_init_134 : decode cX6_init 134 = .ok (.iload_n 1, 1) := by decide +kernel
theorem dX6_init_135 : decode cX6_init 135 = .ok (.new 9, 3) := by decide +kernel
theorem dX6_init_138 : decode cX6_init 138 = .ok (.dup, 1) := by decide +kernel
theorem dX6_init_139 : decode cX6_init 139 = .ok (.invokespecial 65, 3) := by decide +kernel
theorem dX6_init_142 : decode cX6_init 142 = .ok (.aastore, 1) := by decide +kernel
theorem dX6_init_143 : decode cX6_init 143 = .ok (.iinc 1 1, 3) := by decide +kernel
theorem dX6_init_146 : decode cX6_init 146 = .ok (.goto (-22), 3) := by decide +kernel
theorem dX6_init_149 : decode cX6_init 149 = .ok (.return_, 1) := by decide +kernel
theorem dX6_set_0 : decode cX6_set 0 = .ok (.aload_n 0, 1) := by decide +kernel
theorem dX6_set_1 : decode cX6_set 1 = .ok (.iload_n 1, 1) := by decide +kernel
theorem dX6_set_2 : decode cX6_set 2 = .ok (.invokevirtual 66, 3) := by decide +kernel
theorem dX6_set_5 : decode cX6_set 5 = .ok (.astore 4, 2) := by decide +kernel
theorem dX6_set_7 : decode cX6_set 7 = .ok (.aload 4, 2) := by decide +kernel
theorem dX6_set_9 : decode cX6_set 9 = .ok (.ifnull 24, 3) := by decide +kernel
theorem dX6_set_12 : decode cX6_set 12 = .ok (.iload_n 2, 1) := by decide +kernel
theorem dX6_set_13 : decode cX6_set 13 = .ok (.iconst 0, 1) := by decide +kernel
theorem dX6_set_14 : decode cX6_set 14 = .ok (.bipush 20, 2) := by decide +kernel
theorem dX6_set_16 : decode cX6_set 16 = .ok (.invokestatic 70, 3) := by decide +kernel
theorem dX6_set_19 : decode cX6_set 19 = .ok (.ifCond .eq 14, 3) := by decide +kernel
theorem dX6_set_22 : decode cX6_set 22 = .ok (.iload_n 3, 1) := by decide +kernel
theorem dX6_set_23 : decode cX6_set 23 = .ok (.iconst 0, 1) := by decide +kernel
theorem dX6_set_24 : decode cX6_set 24 = .ok (.sipush 1000, 3) := by decide +kernel
theorem dX6_set_27 : decode cX6_set 27 = .ok (.invokestatic 70, 3) := by decide +kernel
theorem dX6_set_30 : decode cX6_set 30 = .ok (.ifCond .ne 5, 3) := by decide +kernel
theorem dX6_set_33 : decode cX6_set 33 = .ok (.iconst 0, 1) := by decide +kernel
theorem dX6_set_34 : decode cX6_set 34 = .ok (.ireturn, 1) := by decide +kernel
theorem dX6_set_35 : decode cX6_set 35 = .ok (.aload 4, 2) := by decide +kernel
theorem dX6_set_37 : decode cX6_set 37 = .ok (.iload_n 2, 1) := by decide +kernel
theorem dX6_set_38 : decode cX6_set 38 = .ok (.iload_n 3, 1) := by decide +kernel
theorem dX6_set_39 : decode cX6_set 39 = .ok (.invokevirtual 74, 3) := by decide +kernel
theorem dX6_set_42 : decode cX6_set 42 = .ok (.iconst 1, 1) := by decide +kernel
theorem dX6_set_43 : decode cX6_set 43 = .ok (.ireturn, 1) := by decide +kernel
theorem dX6_parts_0 : decode cX6_parts 0 = .ok (.aload_n 0, 1) := by decide +kernel
theorem dX6_parts_1 : decode cX6_parts 1 = .ok (.iload_n 1, 1) := by decide +kernel
theorem dX6_parts_2 : decode cX6_parts 2 = .ok (.invokevirtual 66, 3) := by decide +kernel
theorem dX6_parts_5 : decode cX6_parts 5 = .ok (.astore_n 3, 1) := by decide +kernel
theorem dX6_parts_6 : decode cX6_parts 6 = .ok (.aload_n 3, 1) := by decide +kernel
theorem dX6_parts_7 : decode cX6_parts 7 = .ok (.ifnull 13, 3) := by decide +kernel
theorem dX6_parts_10 : decode cX6_parts 10 = .ok (.iload_n 2, 1) := by decide +kernel
theorem dX6_parts_11 : decode cX6_parts 11 = .ok (.iconst 0, 1) := by decide +kernel
theorem dX6_parts_12 : decode cX6_parts 12 = .ok (.bipush 20, 2) := by decide +kernel
theorem dX6_parts_14 : decode cX6_parts 14 = .ok (.invokestatic 70, 3) := by decide +kernel
theorem dX6_parts_17 : decode cX6_parts 17 = .ok (.ifCond .ne 5, 3) := by decide +kernel
theorem dX6_parts_20 : decode cX6_parts 20 = .ok (.iconst (-1), 1) := by decide +kernel
theorem dX6_parts_21 : decode cX6_parts 21 = .ok (.ireturn, 1) := by decide +kernel
theorem dX6_parts_22 : decode cX6_parts 22 = .ok (.aload_n 3, 1) := by decide +kernel
theorem dX6_parts_23 : decode cX6_parts 23 = .ok (.iload_n 2, 1) := by decide +kernel
theorem dX6_parts_24 : decode cX6_parts 24 = .ok (.invokevirtual 77, 3) := by decide +kernel
theorem dX6_parts_27 : decode cX6_parts 27 = .ok (.ireturn, 1) := by decide +kernel
theorem dX6_right_0 : decode cX6_right 0 = .ok (.aload_n 0, 1) := by decide +kernel
theorem dX6_right_1 : decode cX6_right 1 = .ok (.iload_n 1, 1) := by decide +kernel
theorem dX6_right_2 : decode cX6_right 2 = .ok (.invokevirtual 81, 3) := by decide +kernel
theorem dX6_right_5 : decode cX6_right 5 = .ok (.ifnull 7, 3) := by decide +kernel
theorem dX6_right_8 : decode cX6_right 8 = .ok (.iconst 1, 1) := by decide +kernel
theorem dX6_right_9 : decode cX6_right 9 = .ok (.goto 4, 3) := by decide +kernel
theorem dX6_right_12 : decode cX6_right 12 = .ok (.iconst 0, 1) := by decide +kernel
theorem dX6_right_13 : decode cX6_right 13 = .ok (.ireturn, 1) := by decide +kernel
theorem dX6_told_0 : decode cX6_told 0 = .ok (.aload_n 0, 1) := by decide +kernel
theorem dX6_told_1 : decode cX6_told 1 = .ok (.iload_n 1, 1) := by decide +kernel
theorem dX6_told_2 : decode cX6_told 2 = .ok (.invokevirtual 81, 3) := by decide +kernel
theorem dX6_told_5 : decode cX6_told 5 = .ok (.astore 4, 2) := by decide +kernel
theorem dX6_told_7 : decode cX6_told 7 = .ok (.aload 4, 2) := by decide +kernel
theorem dX6_told_9 : decode cX6_told 9 = .ok (.ifnonnull 5, 3) := by decide +kernel
theorem dX6_told_12 : decode cX6_told 12 = .ok (.iconst (-1), 1) := by decide +kernel
theorem dX6_told_13 : decode cX6_told 13 = .ok (.ireturn, 1) := by decide +kernel
theorem dX6_told_14 : decode cX6_told 14 = .ok (.iload_n 2, 1) := by decide +kernel
theorem dX6_told_15 : decode cX6_told 15 = .ok (.ifCond .ne 9, 3) := by decide +kernel
theorem dX6_told_18 : decode cX6_told 18 = .ok (.aload 4, 2) := by decide +kernel
theorem dX6_told_20 : decode cX6_told 20 = .ok (.invokevirtual 84, 3) := by decide +kernel
theorem dX6_told_23 : decode cX6_told 23 = .ok (.ireturn, 1) := by decide +kernel
theorem dX6_told_24 : decode cX6_told 24 = .ok (.iload_n 2, 1) := by decide +kernel
theorem dX6_told_25 : decode cX6_told 25 = .ok (.iconst 1, 1) := by decide +kernel
theorem dX6_told_26 : decode cX6_told 26 = .ok (.if_icmp .ne 9, 3) := by decide +kernel
theorem dX6_told_29 : decode cX6_told 29 = .ok (.aload 4, 2) := by decide +kernel
theorem dX6_told_31 : decode cX6_told 31 = .ok (.invokevirtual 88, 3) := by decide +kernel
theorem dX6_told_34 : decode cX6_told 34 = .ok (.ireturn, 1) := by decide +kernel
theorem dX6_told_35 : decode cX6_told 35 = .ok (.iload_n 2, 1) := by decide +kernel
theorem dX6_told_36 : decode cX6_told 36 = .ok (.iconst 2, 1) := by decide +kernel
theorem dX6_told_37 : decode cX6_told 37 = .ok (.if_icmp .ne 22, 3) := by decide +kernel
theorem dX6_told_40 : decode cX6_told 40 = .ok (.iload_n 3, 1) := by decide +kernel
theorem dX6_told_41 : decode cX6_told 41 = .ok (.iconst 0, 1) := by decide +kernel
theorem dX6_told_42 : decode cX6_told 42 = .ok (.bipush 20, 2) := by decide +kernel
theorem dX6_told_44 : decode cX6_told 44 = .ok (.invokestatic 70, 3) := by decide +kernel
theorem dX6_told_47 : decode cX6_told 47 = .ok (.ifCond .eq 12, 3) := by decide +kernel
theorem dX6_told_50 : decode cX6_told 50 = .ok (.aload 4, 2) := by decide +kernel
theorem dX6_told_52 : decode cX6_told 52 = .ok (.iload_n 3, 1) := by decide +kernel
theorem dX6_told_53 : decode cX6_told 53 = .ok (.invokevirtual 91, 3) := by decide +kernel
theorem dX6_told_56 : decode cX6_told 56 = .ok (.goto 4, 3) := by decide +kernel
theorem dX6_told_59 : decode cX6_told 59 = .ok (.iconst (-1), 1) := by decide +kernel
theorem dX6_told_60 : decode cX6_told 60 = .ok (.ireturn, 1) := by decide +kernel
theorem dX6_layer_0 : decode cX6_layer 0 = .ok (.aload_n 0, 1) := by decide +kernel
theorem dX6_layer_1 : decode cX6_layer 1 = .ok (.iload_n 1, 1) := by decide +kernel
theorem dX6_layer_2 : decode cX6_layer 2 = .ok (.invokevirtual 81, 3) := by decide +kernel
theorem dX6_layer_5 : decode cX6_layer 5 = .ok (.astore 6, 2) := by decide +kernel
theorem dX6_layer_7 : decode cX6_layer 7 = .ok (.aload_n 0, 1) := by decide +kernel
theorem dX6_layer_8 : decode cX6_layer 8 = .ok (.iload 5, 2) := by decide +kernel
theorem dX6_layer_10 : decode cX6_layer 10 = .ok (.invokevirtual 66, 3) := by decide +kernel
theorem dX6_layer_13 : decode cX6_layer 13 = .ok (.astore 7, 2) := by decide +kernel
theorem dX6_layer_15 : decode cX6_layer 15 = .ok (.aload 6, 2) := by decide +kernel
theorem dX6_layer_17 : decode cX6_layer 17 = .ok (.ifnull 23, 3) := by decide +kernel
theorem dX6_layer_20 : decode cX6_layer 20 = .ok (.aload 7, 2) := by decide +kernel
theorem dX6_layer_22 : decode cX6_layer 22 = .ok (.ifnull 18, 3) := by decide +kernel
theorem dX6_layer_25 : decode cX6_layer 25 = .ok (.iload_n 2, 1) := by decide +kernel
theorem dX6_layer_26 : decode cX6_layer 26 = .ok (.ifCond .lt 14, 3) := by decide +kernel
theorem dX6_layer_29 : decode cX6_layer 29 = .ok (.iload_n 3, 1) := by decide +kernel
theorem dX6_layer_30 : decode cX6_layer 30 = .ok (.bipush 20, 2) := by decide +kernel
theorem dX6_layer_32 : decode cX6_layer 32 = .ok (.if_icmp .gt 8, 3) := by decide +kernel
theorem dX6_layer_35 : decode cX6_layer 35 = .ok (.iload_n 2, 1) := by decide +kernel
theorem dX6_layer_36 : decode cX6_layer 36 = .ok (.iload_n 3, 1) := by decide +kernel
theorem dX6_layer_37 : decode cX6_layer 37 = .ok (.if_icmp .le 5, 3) := by decide +kernel
theorem dX6_layer_40 : decode cX6_layer 40 = .ok (.iconst 0, 1) := by decide +kernel
theorem dX6_layer_41 : decode cX6_layer 41 = .ok (.ireturn, 1) := by decide +kernel
theorem dX6_layer_42 : decode cX6_layer 42 = .ok (.aload_n 0, 1) := by decide +kernel
theorem dX6_layer_43 : decode cX6_layer 43 = .ok (.getfield 15, 3) := by decide +kernel
theorem dX6_layer_46 : decode cX6_layer 46 = .ok (.iconst 0, 1) := by decide +kernel
theorem dX6_layer_47 : decode cX6_layer 47 = .ok (.invokestatic 94, 3) := by decide +kernel
theorem dX6_layer_50 : decode cX6_layer 50 = .ok (.iconst 0, 1) := by decide +kernel
theorem dX6_layer_51 : decode cX6_layer 51 = .ok (.istore 8, 2) := by decide +kernel
theorem dX6_layer_53 : decode cX6_layer 53 = .ok (.iload 8, 2) := by decide +kernel
theorem dX6_layer_55 : decode cX6_layer 55 = .ok (.bipush 20, 2) := by decide +kernel
theorem dX6_layer_57 : decode cX6_layer 57 = .ok (.if_icmp .gt 51, 3) := by decide +kernel
theorem dX6_layer_60 : decode cX6_layer 60 = .ok (.iload 8, 2) := by decide +kernel
theorem dX6_layer_62 : decode cX6_layer 62 = .ok (.iload_n 2, 1) := by decide +kernel
theorem dX6_layer_63 : decode cX6_layer 63 = .ok (.isub, 1) := by decide +kernel
theorem dX6_layer_64 : decode cX6_layer 64 = .ok (.iconst 0, 1) := by decide +kernel
theorem dX6_layer_65 : decode cX6_layer 65 = .ok (.invokestatic 100, 3) := by decide +kernel
theorem dX6_layer_68 : decode cX6_layer 68 = .ok (.iload_n 3, 1) := by decide +kernel
theorem dX6_layer_69 : decode cX6_layer 69 = .ok (.iload_n 2, 1) := by decide +kernel
theorem dX6_layer_70 : decode cX6_layer 70 = .ok (.isub, 1) := by decide +kernel
theorem dX6_layer_71 : decode cX6_layer 71 = .ok (.invokestatic 106, 3) := by decide +kernel
theorem dX6_layer_74 : decode cX6_layer 74 = .ok (.istore 9, 2) := by decide +kernel
theorem dX6_layer_76 : decode cX6_layer 76 = .ok (.aload_n 0, 1) := by decide +kernel
theorem dX6_layer_77 : decode cX6_layer 77 = .ok (.iload 4, 2) := by decide +kernel
theorem dX6_layer_79 : decode cX6_layer 79 = .ok (.ifCond .eq 8, 3) := by decide +kernel
theorem dX6_layer_82 : decode cX6_layer 82 = .ok (.iload 9, 2) := by decide +kernel
theorem dX6_layer_84 : decode cX6_layer 84 = .ok (.goto 8, 3) := by decide +kernel
theorem dX6_layer_87 : decode cX6_layer 87 = .ok (.iload 8, 2) := by decide +kernel
theorem dX6_layer_89 : decode cX6_layer 89 = .ok (.iload 9, 2) := by decide +kernel
theorem dX6_layer_91 : decode cX6_layer 91 = .ok (.isub, 1) := by decide +kernel
theorem dX6_layer_92 : decode cX6_layer 92 = .ok (.aload 6, 2) := by decide +kernel
theorem dX6_layer_94 : decode cX6_layer 94 = .ok (.iload 8, 2) := by decide +kernel
theorem dX6_layer_96 : decode cX6_layer 96 = .ok (.invokevirtual 77, 3) := by decide +kernel
theorem dX6_layer_99 : decode cX6_layer 99 = .ok (.invokevirtual 109, 3) := by decide +kernel
theorem dX6_layer_102 : decode cX6_layer 102 = .ok (.iinc 8 1, 3) := by decide +kernel
theorem dX6_layer_105 : decode cX6_layer 105 = .ok (.goto (-52), 3) := by decide +kernel
theorem dX6_layer_108 : decode cX6_layer 108 = .ok (.aload_n 0, 1) := by decide +kernel
theorem dX6_layer_109 : decode cX6_layer 109 = .ok (.aload 7, 2) := by decide +kernel
theorem dX6_layer_111 : decode cX6_layer 111 = .ok (.invokevirtual 112, 3) := by decide +kernel
theorem dX6_layer_114 : decode cX6_layer 114 = .ok (.iconst 1, 1) := by decide +kernel
theorem dX6_layer_115 : decode cX6_layer 115 = .ok (.ireturn, 1) := by decide +kernel
theorem dX6_part_0 : decode cX6_part 0 = .ok (.aload_n 0, 1) := by decide +kernel
theorem dX6_part_1 : decode cX6_part 1 = .ok (.iload_n 1, 1) := by decide +kernel
theorem dX6_part_2 : decode cX6_part 2 = .ok (.invokevirtual 81, 3) := by decide +kernel
theorem dX6_part_5 : decode cX6_part 5 = .ok (.astore 5, 2) := by decide +kernel
theorem dX6_part_7 : decode cX6_part 7 = .ok (.aload_n 0, 1) := by decide +kernel
theorem dX6_part_8 : decode cX6_part 8 = .ok (.iload 4, 2) := by decide +kernel
theorem dX6_part_10 : decode cX6_part 10 = .ok (.invokevirtual 66, 3) := by decide +kernel
theorem dX6_part_13 : decode cX6_part 13 = .ok (.astore 6, 2) := by decide +kernel
theorem dX6_part_15 : decode cX6_part 15 = .ok (.aload 5, 2) := by decide +kernel
theorem dX6_part_17 : decode cX6_part 17 = .ok (.ifnull 18, 3) := by decide +kernel
theorem dX6_part_20 : decode cX6_part 20 = .ok (.aload 6, 2) := by decide +kernel
theorem dX6_part_22 : decode cX6_part 22 = .ok (.ifnull 13, 3) := by decide +kernel
theorem dX6_part_25 : decode cX6_part 25 = .ok (.iload_n 2, 1) := by decide +kernel
theorem dX6_part_26 : decode cX6_part 26 = .ok (.iconst 0, 1) := by decide +kernel
theorem dX6_part_27 : decode cX6_part 27 = .ok (.bipush 100, 2) := by decide +kernel
theorem dX6_part_29 : decode cX6_part 29 = .ok (.invokestatic 70, 3) := by decide +kernel
theorem dX6_part_32 : decode cX6_part 32 = .ok (.ifCond .ne 5, 3) := by decide +kernel
theorem dX6_part_35 : decode cX6_part 35 = .ok (.iconst 0, 1) := by decide +kernel
theorem dX6_part_36 : decode cX6_part 36 = .ok (.ireturn, 1) := by decide +kernel
theorem dX6_part_37 : decode cX6_part 37 = .ok (.aload_n 0, 1) := by decide +kernel
theorem dX6_part_38 : decode cX6_part 38 = .ok (.getfield 15, 3) := by decide +kernel
theorem dX6_part_41 : decode cX6_part 41 = .ok (.iconst 0, 1) := by decide +kernel
theorem dX6_part_42 : decode cX6_part 42 = .ok (.invokestatic 94, 3) := by decide +kernel
theorem dX6_part_45 : decode cX6_part 45 = .ok (.iconst 0, 1) := by decide +kernel
theorem dX6_part_46 : decode cX6_part 46 = .ok (.istore 7, 2) := by decide +kernel
theorem dX6_part_48 : decode cX6_part 48 = .ok (.iload 7, 2) := by decide +kernel
theorem dX6_part_50 : decode cX6_part 50 = .ok (.bipush 20, 2) := by decide +kernel
theorem dX6_part_52 : decode cX6_part 52 = .ok (.if_icmp .gt 43, 3) := by decide +kernel
theorem dX6_part_55 : decode cX6_part 55 = .ok (.iload 7, 2) := by decide +kernel
theorem dX6_part_57 : decode cX6_part 57 = .ok (.iload_n 2, 1) := by decide +kernel
theorem dX6_part_58 : decode cX6_part 58 = .ok (.imul, 1) := by decide +kernel
theorem dX6_part_59 : decode cX6_part 59 = .ok (.bipush 100, 2) := by decide +kernel
theorem dX6_part_61 : decode cX6_part 61 = .ok (.idiv, 1) := by decide +kernel
theorem dX6_part_62 : decode cX6_part 62 = .ok (.istore 8, 2) := by decide +kernel
theorem dX6_part_64 : decode cX6_part 64 = .ok (.aload_n 0, 1) := by decide +kernel
theorem dX6_part_65 : decode cX6_part 65 = .ok (.iload_n 3, 1) := by decide +kernel
theorem dX6_part_66 : decode cX6_part 66 = .ok (.ifCond .eq 11, 3) := by decide +kernel
theorem dX6_part_69 : decode cX6_part 69 = .ok (.iload 7, 2) := by decide +kernel
theorem dX6_part_71 : decode cX6_part 71 = .ok (.iload 8, 2) := by decide +kernel
theorem dX6_part_73 : decode cX6_part 73 = .ok (.isub, 1) := by decide +kernel
theorem dX6_part_74 : decode cX6_part 74 = .ok (.goto 5, 3) := by decide +kernel
theorem dX6_part_77 : decode cX6_part 77 = .ok (.iload 8, 2) := by decide +kernel
theorem dX6_part_79 : decode cX6_part 79 = .ok (.aload 5, 2) := by decide +kernel
theorem dX6_part_81 : decode cX6_part 81 = .ok (.iload 7, 2) := by decide +kernel
theorem dX6_part_83 : decode cX6_part 83 = .ok (.invokevirtual 77, 3) := by decide +kernel
theorem dX6_part_86 : decode cX6_part 86 = .ok (.invokevirtual 109, 3) := by decide +kernel
theorem dX6_part_89 : decode cX6_part 89 = .ok (.iinc 7 1, 3) := by decide +kernel
theorem dX6_part_92 : decode cX6_part 92 = .ok (.goto (-44), 3) := by decide +kernel
theorem dX6_part_95 : decode cX6_part 95 = .ok (.aload_n 0, 1) := by decide +kernel
theorem dX6_part_96 : decode cX6_part 96 = .ok (.aload 6, 2) := by decide +kernel
theorem dX6_part_98 : decode cX6_part 98 = .ok (.invokevirtual 112, 3) := by decide +kernel
theorem dX6_part_101 : decode cX6_part 101 = .ok (.iconst 1, 1) := by decide +kernel
theorem dX6_part_102 : decode cX6_part 102 = .ok (.ireturn, 1) := by decide +kernel
theorem dX6_ruin_0 : decode cX6_ruin 0 = .ok (.aload_n 0, 1) := by decide +kernel
theorem dX6_ruin_1 : decode cX6_ruin 1 = .ok (.iload_n 3, 1) := by decide +kernel
theorem dX6_ruin_2 : decode cX6_ruin 2 = .ok (.invokevirtual 81, 3) := by decide +kernel
theorem dX6_ruin_5 : decode cX6_ruin 5 = .ok (.astore 5, 2) := by decide +kernel
theorem dX6_ruin_7 : decode cX6_ruin 7 = .ok (.aload 5, 2) := by decide +kernel
theorem dX6_ruin_9 : decode cX6_ruin 9 = .ok (.ifnull 34, 3) := by decide +kernel
theorem dX6_ruin_12 : decode cX6_ruin 12 = .ok (.iload_n 1, 1) := by decide +kernel
theorem dX6_ruin_13 : decode cX6_ruin 13 = .ok (.iconst 0, 1) := by decide +kernel
theorem dX6_ruin_14 : decode cX6_ruin 14 = .ok (.bipush 100, 2) := by decide +kernel
theorem dX6_ruin_16 : decode cX6_ruin 16 = .ok (.invokestatic 70, 3) := by decide +kernel
theorem dX6_ruin_19 : decode cX6_ruin 19 = .ok (.ifCond .eq 24, 3) := by decide +kernel
theorem dX6_ruin_22 : decode cX6_ruin 22 = .ok (.iload_n 2, 1) := by decide +kernel
theorem dX6_ruin_23 : decode cX6_ruin 23 = .ok (.iconst 0, 1) := by decide +kernel
theorem dX6_ruin_24 : decode cX6_ruin 24 = .ok (.bipush 20, 2) := by decide +kernel
theorem dX6_ruin_26 : decode cX6_ruin 26 = .ok (.invokestatic 70, 3) := by decide +kernel
theorem dX6_ruin_29 : decode cX6_ruin 29 = .ok (.ifCond .eq 14, 3) := by decide +kernel
theorem dX6_ruin_32 : decode cX6_ruin 32 = .ok (.iload 4, 2) := by decide +kernel
theorem dX6_ruin_34 : decode cX6_ruin 34 = .ok (.iconst 1, 1) := by decide +kernel
theorem dX6_ruin_35 : decode cX6_ruin 35 = .ok (.bipush 40, 2) := by decide +kernel
theorem dX6_ruin_37 : decode cX6_ruin 37 = .ok (.invokestatic 70, 3) := by decide +kernel
theorem dX6_ruin_40 : decode cX6_ruin 40 = .ok (.ifCond .ne 5, 3) := by decide +kernel
theorem dX6_ruin_43 : decode cX6_ruin 43 = .ok (.iconst 0, 1) := by decide +kernel
theorem dX6_ruin_44 : decode cX6_ruin 44 = .ok (.ireturn, 1) := by decide +kernel
theorem dX6_ruin_45 : decode cX6_ruin 45 = .ok (.aload_n 0, 1) := by decide +kernel
theorem dX6_ruin_46 : decode cX6_ruin 46 = .ok (.lconst 1, 1) := by decide +kernel
theorem dX6_ruin_47 : decode cX6_ruin 47 = .ok (.invokevirtual 116, 3) := by decide +kernel
theorem dX6_ruin_50 : decode cX6_ruin 50 = .ok (.aload_n 0, 1) := by decide +kernel
theorem dX6_ruin_51 : decode cX6_ruin 51 = .ok (.getfield 22, 3) := by decide +kernel
theorem dX6_ruin_54 : decode cX6_ruin 54 = .ok (.getfield 120, 3) := by decide +kernel
theorem dX6_ruin_57 : decode cX6_ruin 57 = .ok (.aload 5, 2) := by decide +kernel
theorem dX6_ruin_59 : decode cX6_ruin 59 = .ok (.iconst 1, 1) := by decide +kernel
theorem dX6_ruin_60 : decode cX6_ruin 60 = .ok (.invokevirtual 124, 3) := by decide +kernel
theorem dX6_ruin_63 : decode cX6_ruin 63 = .ok (.aload_n 0, 1) := by decide +kernel
theorem dX6_ruin_64 : decode cX6_ruin 64 = .ok (.getfield 22, 3) := by decide +kernel
theorem dX6_ruin_67 : decode cX6_ruin 67 = .ok (.iload_n 1, 1) := by decide +kernel
theorem dX6_ruin_68 : decode cX6_ruin 68 = .ok (.iload_n 2, 1) := by decide +kernel
theorem dX6_ruin_69 : decode cX6_ruin 69 = .ok (.iload 4, 2) := by decide +kernel
theorem dX6_ruin_71 : decode cX6_ruin 71 = .ok (.aload_n 0, 1) := by decide +kernel
theorem dX6_ruin_72 : decode cX6_ruin 72 = .ok (.getfield 45, 3) := by decide +kernel
theorem dX6_ruin_75 : decode cX6_ruin 75 = .ok (.iconst 0, 1) := by decide +kernel
theorem dX6_ruin_76 : decode cX6_ruin 76 = .ok (.invokevirtual 130, 3) := by decide +kernel
theorem dX6_ruin_79 : decode cX6_ruin 79 = .ok (.aload_n 0, 1) := by decide +kernel
theorem dX6_ruin_80 : decode cX6_ruin 80 = .ok (.lconst 0, 1) := by decide +kernel
theorem dX6_ruin_81 : decode cX6_ruin 81 = .ok (.invokevirtual 116, 3) := by decide +kernel
theorem dX6_ruin_84 : decode cX6_ruin 84 = .ok (.aload_n 0, 1) := by decide +kernel
theorem dX6_ruin_85 : decode cX6_ruin 85 = .ok (.getfield 52, 3) := by decide +kernel
theorem dX6_ruin_88 : decode cX6_ruin 88 = .ok (.invokevirtual 134, 3) := by decide +kernel
theorem dX6_ruin_91 : decode cX6_ruin 91 = .ok (.aload_n 0, 1) := by decide +kernel
theorem dX6_ruin_92 : decode cX6_ruin 92 = .ok (.getfield 55, 3) := by decide +kernel
theorem dX6_ruin_95 : decode cX6_ruin 95 = .ok (.invokevirtual 134, 3) := by decide +kernel
theorem dX6_ruin_98 : decode cX6_ruin 98 = .ok (.iconst 1, 1) := by decide +kernel
theorem dX6_ruin_99 : decode cX6_ruin 99 = .ok (.istore 6, 2) := by decide +kernel
theorem dX6_ruin_101 : decode cX6_ruin 101 = .ok (.iload 6, 2) := by decide +kernel
theorem dX6_ruin_103 : decode cX6_ruin 103 = .ok (.iload 4, 2) := by decide +kernel
theorem dX6_ruin_105 : decode cX6_ruin 105 = .ok (.if_icmp .gt 22, 3) := by decide +kernel
theorem dX6_ruin_108 : decode cX6_ruin 108 = .ok (.aload_n 0, 1) := by decide +kernel
theorem dX6_ruin_109 : decode cX6_ruin 109 = .ok (.iload 6, 2) := by decide +kernel
theorem dX6_ruin_111 : decode cX6_ruin 111 = .ok (.invokevirtual 137, 3) := by decide +kernel
theorem dX6_ruin_114 : decode cX6_ruin 114 = .ok (.aload_n 0, 1) := by decide +kernel
theorem dX6_ruin_115 : decode cX6_ruin 115 = .ok (.getfield 22, 3) := by decide +kernel
theorem dX6_ruin_118 : decode cX6_ruin 118 = .ok (.invokevirtual 141, 3) := by decide +kernel
theorem dX6_ruin_121 : decode cX6_ruin 121 = .ok (.iinc 6 1, 3) := by decide +kernel
theorem dX6_ruin_124 : decode cX6_ruin 124 = .ok (.goto (-23), 3) := by decide +kernel
theorem dX6_ruin_127 : decode cX6_ruin 127 = .ok (.aload_n 0, 1) := by decide +kernel
theorem dX6_ruin_128 : decode cX6_ruin 128 = .ok (.iconst 3, 1) := by decide +kernel
theorem dX6_ruin_129 : decode cX6_ruin 129 = .ok (.iload 4, 2) := by decide +kernel
theorem dX6_ruin_131 : decode cX6_ruin 131 = .ok (.imul, 1) := by decide +kernel
theorem dX6_ruin_132 : decode cX6_ruin 132 = .ok (.putfield 58, 3) := by decide +kernel
theorem dX6_ruin_135 : decode cX6_ruin 135 = .ok (.aload_n 0, 1) := by decide +kernel
theorem dX6_ruin_136 : decode cX6_ruin 136 = .ok (.iload 4, 2) := by decide +kernel
theorem dX6_ruin_138 : decode cX6_ruin 138 = .ok (.putfield 62, 3) := by decide +kernel
theorem dX6_ruin_141 : decode cX6_ruin 141 = .ok (.iconst 1, 1) := by decide +kernel
theorem dX6_ruin_142 : decode cX6_ruin 142 = .ok (.ireturn, 1) := by decide +kernel
theorem dX6_at_0 : decode cX6_at 0 = .ok (.iload_n 1, 1) := by decide +kernel
theorem dX6_at_1 : decode cX6_at 1 = .ok (.iconst 1, 1) := by decide +kernel
theorem dX6_at_2 : decode cX6_at 2 = .ok (.aload_n 0, 1) := by decide +kernel
theorem dX6_at_3 : decode cX6_at 3 = .ok (.getfield 62, 3) := by decide +kernel
theorem dX6_at_6 : decode cX6_at 6 = .ok (.invokestatic 70, 3) := by decide +kernel
theorem dX6_at_9 : decode cX6_at 9 = .ok (.ifCond .eq 17, 3) := by decide +kernel
theorem dX6_at_12 : decode cX6_at 12 = .ok (.iload_n 2, 1) := by decide +kernel
theorem dX6_at_13 : decode cX6_at 13 = .ok (.iconst 1, 1) := by decide +kernel
theorem dX6_at_14 : decode cX6_at 14 = .ok (.iconst 3, 1) := by decide +kernel
theorem dX6_at_15 : decode cX6_at 15 = .ok (.aload_n 0, 1) := by decide +kernel
theorem dX6_at_16 : decode cX6_at 16 = .ok (.getfield 62, 3) := by decide +kernel
theorem dX6_at_19 : decode cX6_at 19 = .ok (.imul, 1) := by decide +kernel
theorem dX6_at_20 : decode cX6_at 20 = .ok (.invokestatic 70, 3) := by decide +kernel
theorem dX6_at_23 : decode cX6_at 23 = .ok (.ifCond .ne 5, 3) := by decide +kernel
theorem dX6_at_26 : decode cX6_at 26 = .ok (.iconst (-1), 1) := by decide +kernel
theorem dX6_at_27 : decode cX6_at 27 = .ok (.ireturn, 1) := by decide +kernel
theorem dX6_at_28 : decode cX6_at 28 = .ok (.aload_n 0, 1) := by decide +kernel
theorem dX6_at_29 : decode cX6_at 29 = .ok (.getfield 52, 3) := by decide +kernel
theorem dX6_at_32 : decode cX6_at 32 = .ok (.iload_n 1, 1) := by decide +kernel
theorem dX6_at_33 : decode cX6_at 33 = .ok (.iconst 3, 1) := by decide +kernel
theorem dX6_at_34 : decode cX6_at 34 = .ok (.iload_n 1, 1) := by decide +kernel
theorem dX6_at_35 : decode cX6_at 35 = .ok (.imul, 1) := by decide +kernel
theorem dX6_at_36 : decode cX6_at 36 = .ok (.iload_n 2, 1) := by decide +kernel
theorem dX6_at_37 : decode cX6_at 37 = .ok (.isub, 1) := by decide +kernel
theorem dX6_at_38 : decode cX6_at 38 = .ok (.invokevirtual 144, 3) := by decide +kernel
theorem dX6_at_41 : decode cX6_at 41 = .ok (.ireturn, 1) := by decide +kernel
theorem dX6_deep_0 : decode cX6_deep 0 = .ok (.iload_n 1, 1) := by decide +kernel
theorem dX6_deep_1 : decode cX6_deep 1 = .ok (.iconst 1, 1) := by decide +kernel
theorem dX6_deep_2 : decode cX6_deep 2 = .ok (.bipush 20, 2) := by decide +kernel
theorem dX6_deep_4 : decode cX6_deep 4 = .ok (.invokestatic 70, 3) := by decide +kernel
theorem dX6_deep_7 : decode cX6_deep 7 = .ok (.ifCond .eq 17, 3) := by decide +kernel
theorem dX6_deep_10 : decode cX6_deep 10 = .ok (.iload_n 2, 1) := by decide +kernel
theorem dX6_deep_11 : decode cX6_deep 11 = .ok (.iconst 1, 1) := by decide +kernel
theorem dX6_deep_12 : decode cX6_deep 12 = .ok (.iconst 3, 1) := by decide +kernel
theorem dX6_deep_13 : decode cX6_deep 13 = .ok (.aload_n 0, 1) := by decide +kernel
theorem dX6_deep_14 : decode cX6_deep 14 = .ok (.getfield 62, 3) := by decide +kernel
theorem dX6_deep_17 : decode cX6_deep 17 = .ok (.imul, 1) := by decide +kernel
theorem dX6_deep_18 : decode cX6_deep 18 = .ok (.invokestatic 70, 3) := by decide +kernel
theorem dX6_deep_21 : decode cX6_deep 21 = .ok (.ifCond .ne 5, 3) := by decide +kernel
theorem dX6_deep_24 : decode cX6_deep 24 = .ok (.iconst (-1), 1) := by decide +kernel
theorem dX6_deep_25 : decode cX6_deep 25 = .ok (.ireturn, 1) := by decide +kernel
theorem dX6_deep_26 : decode cX6_deep 26 = .ok (.aload_n 0, 1) := by decide +kernel
theorem dX6_deep_27 : decode cX6_deep 27 = .ok (.getfield 55, 3) := by decide +kernel
theorem dX6_deep_30 : decode cX6_deep 30 = .ok (.iload_n 1, 1) := by decide +kernel
theorem dX6_deep_31 : decode cX6_deep 31 = .ok (.iconst 3, 1) := by decide +kernel
theorem dX6_deep_32 : decode cX6_deep 32 = .ok (.aload_n 0, 1) := by decide +kernel
theorem dX6_deep_33 : decode cX6_deep 33 = .ok (.getfield 62, 3) := by decide +kernel
theorem dX6_deep_36 : decode cX6_deep 36 = .ok (.imul, 1) := by decide +kernel
theorem dX6_deep_37 : decode cX6_deep 37 = .ok (.iload_n 2, 1) := by decide +kernel
theorem dX6_deep_38 : decode cX6_deep 38 = .ok (.isub, 1) := by decide +kernel
theorem dX6_deep_39 : decode cX6_deep 39 = .ok (.invokevirtual 144, 3) := by decide +kernel
theorem dX6_deep_42 : decode cX6_deep 42 = .ok (.ireturn, 1) := by decide +kernel
theorem dX6_ever_0 : decode cX6_ever 0 = .ok (.aload_n 0, 1) := by decide +kernel
theorem dX6_ever_1 : decode cX6_ever 1 = .ok (.iload_n 2, 1) := by decide +kernel
theorem dX6_ever_2 : decode cX6_ever 2 = .ok (.invokevirtual 81, 3) := by decide +kernel
theorem dX6_ever_5 : decode cX6_ever 5 = .ok (.astore_n 3, 1) := by decide +kernel
theorem dX6_ever_6 : decode cX6_ever 6 = .ok (.aload_n 3, 1) := by decide +kernel
theorem dX6_ever_7 : decode cX6_ever 7 = .ok (.ifnull 13, 3) := by decide +kernel
theorem dX6_ever_10 : decode cX6_ever 10 = .ok (.iload_n 1, 1) := by decide +kernel
theorem dX6_ever_11 : decode cX6_ever 11 = .ok (.iconst 0, 1) := by decide +kernel
theorem dX6_ever_12 : decode cX6_ever 12 = .ok (.bipush 60, 2) := by decide +kernel
theorem dX6_ever_14 : decode cX6_ever 14 = .ok (.invokestatic 70, 3) := by decide +kernel
theorem dX6_ever_17 : decode cX6_ever 17 = .ok (.ifCond .ne 5, 3) := by decide +kernel
theorem dX6_ever_20 : decode cX6_ever 20 = .ok (.iconst 0, 1) := by decide +kernel
theorem dX6_ever_21 : decode cX6_ever 21 = .ok (.ireturn, 1) := by decide +kernel
theorem dX6_ever_22 : decode cX6_ever 22 = .ok (.aload_n 3, 1) := by decide +kernel
theorem dX6_ever_23 : decode cX6_ever 23 = .ok (.invokevirtual 84, 3) := by decide +kernel
theorem dX6_ever_26 : decode cX6_ever 26 = .ok (.sipush 1000, 3) := by decide +kernel
theorem dX6_ever_29 : decode cX6_ever 29 = .ok (.if_icmp .lt 7, 3) := by decide +kernel
theorem dX6_ever_32 : decode cX6_ever 32 = .ok (.iconst 1, 1) := by decide +kernel
theorem dX6_ever_33 : decode cX6_ever 33 = .ok (.goto 4, 3) := by decide +kernel
theorem dX6_ever_36 : decode cX6_ever 36 = .ok (.iconst 0, 1) := by decide +kernel
theorem dX6_ever_37 : decode cX6_ever 37 = .ok (.istore 4, 2) := by decide +kernel
theorem dX6_ever_39 : decode cX6_ever 39 = .ok (.iload 4, 2) := by decide +kernel
theorem dX6_ever_41 : decode cX6_ever 41 = .ok (.ifCond .eq 18, 3) := by decide +kernel
theorem dX6_ever_44 : decode cX6_ever 44 = .ok (.aload_n 3, 1) := by decide +kernel
theorem dX6_ever_45 : decode cX6_ever 45 = .ok (.iconst 1, 1) := by decide +kernel
theorem dX6_ever_46 : decode cX6_ever 46 = .ok (.invokevirtual 77, 3) := by decide +kernel
theorem dX6_ever_49 : decode cX6_ever 49 = .ok (.sipush 1000, 3) := by decide +kernel
theorem dX6_ever_52 : decode cX6_ever 52 = .ok (.if_icmp .eq 7, 3) := by decide +kernel
theorem dX6_ever_55 : decode cX6_ever 55 = .ok (.iconst 1, 1) := by decide +kernel
theorem dX6_ever_56 : decode cX6_ever 56 = .ok (.goto 4, 3) := by decide +kernel
theorem dX6_ever_59 : decode cX6_ever 59 = .ok (.iconst 0, 1) := by decide +kernel
theorem dX6_ever_60 : decode cX6_ever 60 = .ok (.istore 5, 2) := by decide +kernel
theorem dX6_ever_62 : decode cX6_ever 62 = .ok (.aload_n 0, 1) := by decide +kernel
theorem dX6_ever_63 : decode cX6_ever 63 = .ok (.iload 5, 2) := by decide +kernel
theorem dX6_ever_65 : decode cX6_ever 65 = .ok (.ifCond .eq 7, 3) := by decide +kernel
theorem dX6_ever_68 : decode cX6_ever 68 = .ok (.lconst 1, 1) := by decide +kernel
theorem dX6_ever_69 : decode cX6_ever 69 = .ok (.goto 4, 3) := by decide +kernel
theorem dX6_ever_72 : decode cX6_ever 72 = .ok (.lconst 0, 1) := by decide +kernel
theorem dX6_ever_73 : decode cX6_ever 73 = .ok (.invokevirtual 116, 3) := by decide +kernel
theorem dX6_ever_76 : decode cX6_ever 76 = .ok (.iload 4, 2) := by decide +kernel
theorem dX6_ever_78 : decode cX6_ever 78 = .ok (.ifCond .ne 12, 3) := by decide +kernel
theorem dX6_ever_81 : decode cX6_ever 81 = .ok (.aload_n 0, 1) := by decide +kernel
theorem dX6_ever_82 : decode cX6_ever 82 = .ok (.getfield 36, 3) := by decide +kernel
theorem dX6_ever_85 : decode cX6_ever 85 = .ok (.aload_n 3, 1) := by decide +kernel
theorem dX6_ever_86 : decode cX6_ever 86 = .ok (.iload_n 1, 1) := by decide +kernel
theorem dX6_ever_87 : decode cX6_ever 87 = .ok (.invokevirtual 147, 3) := by decide +kernel
theorem dX6_ever_90 : decode cX6_ever 90 = .ok (.iconst 0, 1) := by decide +kernel
theorem dX6_ever_91 : decode cX6_ever 91 = .ok (.istore 6, 2) := by decide +kernel
theorem dX6_ever_93 : decode cX6_ever 93 = .ok (.iload 6, 2) := by decide +kernel
theorem dX6_ever_95 : decode cX6_ever 95 = .ok (.bipush 30, 2) := by decide +kernel
theorem dX6_ever_97 : decode cX6_ever 97 = .ok (.if_icmp .ge 36, 3) := by decide +kernel
theorem dX6_ever_100 : decode cX6_ever 100 = .ok (.aload_n 0, 1) := by decide +kernel
theorem dX6_ever_101 : decode cX6_ever 101 = .ok (.getfield 45, 3) := by decide +kernel
theorem dX6_ever_104 : decode cX6_ever 104 = .ok (.iconst 0, 1) := by decide +kernel
theorem dX6_ever_105 : decode cX6_ever 105 = .ok (.ldc2_w 150, 3) := by decide +kernel
theorem dX6_ever_108 : decode cX6_ever 108 = .ok (.iload 4, 2) := by decide +kernel
theorem dX6_ever_110 : decode cX6_ever 110 = .ok (.ifCond .eq 7, 3) := by decide +kernel
theorem dX6_ever_113 : decode cX6_ever 113 = .ok (.lconst 0, 1) := by decide +kernel
theorem dX6_ever_114 : decode cX6_ever 114 = .ok (.goto 10, 3) := by decide +kernel
theorem dX6_ever_117 : decode cX6_ever 117 = .ok (.aload_n 0, 1) := by decide +kernel
theorem dX6_ever_118 : decode cX6_ever 118 = .ok (.getfield 36, 3) := by decide +kernel
theorem dX6_ever_121 : decode cX6_ever 121 = .ok (.invokevirtual 152, 3) := by decide +kernel
theorem dX6_ever_124 : decode cX6_ever 124 = .ok (.invokevirtual 156, 3) := by decide +kernel
theorem dX6_ever_127 : decode cX6_ever 127 = .ok (.iinc 6 1, 3) := by decide +kernel
theorem dX6_ever_130 : decode cX6_ever 130 = .ok (.goto (-37), 3) := by decide +kernel
theorem dX6_ever_133 : decode cX6_ever 133 = .ok (.aload_n 0, 1) := by decide +kernel
theorem dX6_ever_134 : decode cX6_ever 134 = .ok (.bipush 30, 2) := by decide +kernel
theorem dX6_ever_136 : decode cX6_ever 136 = .ok (.putfield 58, 3) := by decide +kernel
theorem dX6_ever_139 : decode cX6_ever 139 = .ok (.iconst 1, 1) := by decide +kernel
theorem dX6_ever_140 : decode cX6_ever 140 = .ok (.ireturn, 1) := by decide +kernel
theorem dX6_worth_0 : decode cX6_worth 0 = .ok (.aload_n 0, 1) := by decide +kernel
theorem dX6_worth_1 : decode cX6_worth 1 = .ok (.iload_n 3, 1) := by decide +kernel
theorem dX6_worth_2 : decode cX6_worth 2 = .ok (.invokevirtual 81, 3) := by decide +kernel
theorem dX6_worth_5 : decode cX6_worth 5 = .ok (.astore 6, 2) := by decide +kernel
theorem dX6_worth_7 : decode cX6_worth 7 = .ok (.aload 6, 2) := by decide +kernel
theorem dX6_worth_9 : decode cX6_worth 9 = .ok (.ifnull 46, 3) := by decide +kernel
theorem dX6_worth_12 : decode cX6_worth 12 = .ok (.iload_n 1, 1) := by decide +kernel
theorem dX6_worth_13 : decode cX6_worth 13 = .ok (.iconst 0, 1) := by decide +kernel
theorem dX6_worth_14 : decode cX6_worth 14 = .ok (.bipush 60, 2) := by decide +kernel
theorem dX6_worth_16 : decode cX6_worth 16 = .ok (.invokestatic 70, 3) := by decide +kernel
theorem dX6_worth_19 : decode cX6_worth 19 = .ok (.ifCond .eq 36, 3) := by decide +kernel
theorem dX6_worth_22 : decode cX6_worth 22 = .ok (.iload_n 2, 1) := by decide +kernel
theorem dX6_worth_23 : decode cX6_worth 23 = .ok (.iconst 0, 1) := by decide +kernel
theorem dX6_worth_24 : decode cX6_worth 24 = .ok (.bipush 20, 2) := by decide +kernel
theorem dX6_worth_26 : decode cX6_worth 26 = .ok (.invokestatic 70, 3) := by decide +kernel
theorem dX6_worth_29 : decode cX6_worth 29 = .ok (.ifCond .eq 26, 3) := by decide +kernel
theorem dX6_worth_32 : decode cX6_worth 32 = .ok (.iload 4, 2) := by decide +kernel
theorem dX6_worth_34 : decode cX6_worth 34 = .ok (.iconst 0, 1) := by decide +kernel
theorem dX6_worth_35 : decode cX6_worth 35 = .ok (.sipush 1000, 3) := by decide +kernel
theorem dX6_worth_38 : decode cX6_worth 38 = .ok (.invokestatic 70, 3) := by decide +kernel
theorem dX6_worth_41 : decode cX6_worth 41 = .ok (.ifCond .eq 14, 3) := by decide +kernel
theorem dX6_worth_44 : decode cX6_worth 44 = .ok (.iload 5, 2) := by decide +kernel
theorem dX6_worth_46 : decode cX6_worth 46 = .ok (.iconst 0, 1) := by decide +kernel
theorem dX6_worth_47 : decode cX6_worth 47 = .ok (.bipush 6, 2) := by decide +kernel
theorem dX6_worth_49 : decode cX6_worth 49 = .ok (.invokestatic 70, 3) := by decide +kernel
theorem dX6_worth_52 : decode cX6_worth 52 = .ok (.ifCond .ne 5, 3) := by decide +kernel
theorem dX6_worth_55 : decode cX6_worth 55 = .ok (.iconst (-1), 1) := by decide +kernel
theorem dX6_worth_56 : decode cX6_worth 56 = .ok (.ireturn, 1) := by decide +kernel
theorem dX6_worth_57 : decode cX6_worth 57 = .ok (.aload_n 0, 1) := by decide +kernel
theorem dX6_worth_58 : decode cX6_worth 58 = .ok (.getfield 29, 3) := by decide +kernel
theorem dX6_worth_61 : decode cX6_worth 61 = .ok (.getfield 160, 3) := by decide +kernel
theorem dX6_worth_64 : decode cX6_worth 64 = .ok (.aload 6, 2) := by decide +kernel
theorem dX6_worth_66 : decode cX6_worth 66 = .ok (.iload 4, 2) := by decide +kernel
theorem dX6_worth_68 : decode cX6_worth 68 = .ok (.invokevirtual 124, 3) := by decide +kernel
theorem dX6_worth_71 : decode cX6_worth 71 = .ok (.aload_n 0, 1) := by decide +kernel
theorem dX6_worth_72 : decode cX6_worth 72 = .ok (.getfield 29, 3) := by decide +kernel
theorem dX6_worth_75 : decode cX6_worth 75 = .ok (.iload_n 1, 1) := by decide +kernel
theorem dX6_worth_76 : decode cX6_worth 76 = .ok (.iload_n 2, 1) := by decide +kernel
theorem dX6_worth_77 : decode cX6_worth 77 = .ok (.iload 5, 2) := by decide +kernel
theorem dX6_worth_79 : decode cX6_worth 79 = .ok (.invokevirtual 161, 3) := by decide +kernel
theorem dX6_worth_82 : decode cX6_worth 82 = .ok (.istore 7, 2) := by decide +kernel
theorem dX6_worth_84 : decode cX6_worth 84 = .ok (.aload_n 0, 1) := by decide +kernel
theorem dX6_worth_85 : decode cX6_worth 85 = .ok (.getfield 45, 3) := by decide +kernel
theorem dX6_worth_88 : decode cX6_worth 88 = .ok (.iconst 0, 1) := by decide +kernel
theorem dX6_worth_89 : decode cX6_worth 89 = .ok (.aload_n 0, 1) := by decide +kernel
theorem dX6_worth_90 : decode cX6_worth 90 = .ok (.getfield 29, 3) := by decide +kernel
theorem dX6_worth_93 : decode cX6_worth 93 = .ok (.getfield 164, 3) := by decide +kernel
theorem dX6_worth_96 : decode cX6_worth 96 = .ok (.iload_n 1, 1) := by decide +kernel
theorem dX6_worth_97 : decode cX6_worth 97 = .ok (.invokevirtual 167, 3) := by decide +kernel
theorem dX6_worth_100 : decode cX6_worth 100 = .ok (.aload_n 0, 1) := by decide +kernel
theorem dX6_worth_101 : decode cX6_worth 101 = .ok (.bipush 6, 2) := by decide +kernel
theorem dX6_worth_103 : decode cX6_worth 103 = .ok (.iload 5, 2) := by decide +kernel
theorem dX6_worth_105 : decode cX6_worth 105 = .ok (.imul, 1) := by decide +kernel
theorem dX6_worth_106 : decode cX6_worth 106 = .ok (.putfield 58, 3) := by decide +kernel
theorem dX6_worth_109 : decode cX6_worth 109 = .ok (.iload 7, 2) := by decide +kernel
theorem dX6_worth_111 : decode cX6_worth 111 = .ok (.ireturn, 1) := by decide +kernel
theorem dX6_two_0 : decode cX6_two 0 = .ok (.aload_n 0, 1) := by decide +kernel
theorem dX6_two_1 : decode cX6_two 1 = .ok (.iload_n 2, 1) := by decide +kernel
theorem dX6_two_2 : decode cX6_two 2 = .ok (.invokevirtual 81, 3) := by decide +kernel
theorem dX6_two_5 : decode cX6_two 5 = .ok (.astore 6, 2) := by decide +kernel
theorem dX6_two_7 : decode cX6_two 7 = .ok (.aload_n 0, 1) := by decide +kernel
theorem dX6_two_8 : decode cX6_two 8 = .ok (.iload_n 3, 1) := by decide +kernel
theorem dX6_two_9 : decode cX6_two 9 = .ok (.invokevirtual 81, 3) := by decide +kernel
theorem dX6_two_12 : decode cX6_two 12 = .ok (.astore 7, 2) := by decide +kernel
theorem dX6_two_14 : decode cX6_two 14 = .ok (.aload 6, 2) := by decide +kernel
theorem dX6_two_16 : decode cX6_two 16 = .ok (.ifnull 28, 3) := by decide +kernel
theorem dX6_two_19 : decode cX6_two 19 = .ok (.aload 7, 2) := by decide +kernel
theorem dX6_two_21 : decode cX6_two 21 = .ok (.ifnull 23, 3) := by decide +kernel
theorem dX6_two_24 : decode cX6_two 24 = .ok (.iload_n 1, 1) := by decide +kernel
theorem dX6_two_25 : decode cX6_two 25 = .ok (.iconst 0, 1) := by decide +kernel
theorem dX6_two_26 : decode cX6_two 26 = .ok (.ldc 171, 2) := by decide +kernel
theorem dX6_two_28 : decode cX6_two 28 = .ok (.invokestatic 70, 3) := by decide +kernel
theorem dX6_two_31 : decode cX6_two 31 = .ok (.ifCond .eq 13, 3) := by decide +kernel
theorem dX6_two_34 : decode cX6_two 34 = .ok (.iload 4, 2) := by decide +kernel
theorem dX6_two_36 : decode cX6_two 36 = .ok (.iconst 1, 1) := by decide +kernel
theorem dX6_two_37 : decode cX6_two 37 = .ok (.iconst 5, 1) := by decide +kernel
theorem dX6_two_38 : decode cX6_two 38 = .ok (.invokestatic 70, 3) := by decide +kernel
theorem dX6_two_41 : decode cX6_two 41 = .ok (.ifCond .ne 5, 3) := by decide +kernel
theorem dX6_two_44 : decode cX6_two 44 = .ok (.iconst 0, 1) := by decide +kernel
theorem dX6_two_45 : decode cX6_two 45 = .ok (.ireturn, 1) := by decide +kernel
theorem dX6_two_46 : decode cX6_two 46 = .ok (.iload_n 1, 1) := by decide +kernel
theorem dX6_two_47 : decode cX6_two 47 = .ok (.bipush 15, 2) := by decide +kernel
theorem dX6_two_49 : decode cX6_two 49 = .ok (.iand, 1) := by decide +kernel
theorem dX6_two_50 : decode cX6_two 50 = .ok (.istore 8, 2) := by decide +kernel
theorem dX6_two_52 : decode cX6_two 52 = .ok (.iload_n 1, 1) := by decide +kernel
theorem dX6_two_53 : decode cX6_two 53 = .ok (.iconst 4, 1) := by decide +kernel
theorem dX6_two_54 : decode cX6_two 54 = .ok (.ishr, 1) := by decide +kernel
theorem dX6_two_55 : decode cX6_two 55 = .ok (.bipush 15, 2) := by decide +kernel
theorem dX6_two_57 : decode cX6_two 57 = .ok (.iand, 1) := by decide +kernel
theorem dX6_two_58 : decode cX6_two 58 = .ok (.istore 9, 2) := by decide +kernel
theorem dX6_two_60 : decode cX6_two 60 = .ok (.iload_n 1, 1) := by decide +kernel
theorem dX6_two_61 : decode cX6_two 61 = .ok (.bipush 8, 2) := by decide +kernel
theorem dX6_two_63 : decode cX6_two 63 = .ok (.ishr, 1) := by decide +kernel
theorem dX6_two_64 : decode cX6_two 64 = .ok (.bipush 15, 2) := by decide +kernel
theorem dX6_two_66 : decode cX6_two 66 = .ok (.iand, 1) := by decide +kernel
theorem dX6_two_67 : decode cX6_two 67 = .ok (.istore 10, 2) := by decide +kernel
theorem dX6_two_69 : decode cX6_two 69 = .ok (.iload_n 1, 1) := by decide +kernel
theorem dX6_two_70 : decode cX6_two 70 = .ok (.bipush 12, 2) := by decide +kernel
theorem dX6_two_72 : decode cX6_two 72 = .ok (.ishr, 1) := by decide +kernel
theorem dX6_two_73 : decode cX6_two 73 = .ok (.bipush 15, 2) := by decide +kernel
theorem dX6_two_75 : decode cX6_two 75 = .ok (.iand, 1) := by decide +kernel
theorem dX6_two_76 : decode cX6_two 76 = .ok (.istore 11, 2) := by decide +kernel
theorem dX6_two_78 : decode cX6_two 78 = .ok (.iload 8, 2) := by decide +kernel
theorem dX6_two_80 : decode cX6_two 80 = .ok (.bipush 12, 2) := by decide +kernel
theorem dX6_two_82 : decode cX6_two 82 = .ok (.if_icmp .gt 24, 3) := by decide +kernel
theorem dX6_two_85 : decode cX6_two 85 = .ok (.iload 9, 2) := by decide +kernel
theorem dX6_two_87 : decode cX6_two 87 = .ok (.bipush 12, 2) := by decide +kernel
theorem dX6_two_89 : decode cX6_two 89 = .ok (.if_icmp .gt 17, 3) := by decide +kernel
theorem dX6_two_92 : decode cX6_two 92 = .ok (.iload 10, 2) := by decide +kernel
theorem dX6_two_94 : decode cX6_two 94 = .ok (.bipush 6, 2) := by decide +kernel
theorem dX6_two_96 : decode cX6_two 96 = .ok (.if_icmp .gt 10, 3) := by decide +kernel
theorem dX6_two_99 : decode cX6_two 99 = .ok (.iload 11, 2) := by decide +kernel
theorem dX6_two_101 : decode cX6_two 101 = .ok (.bipush 6, 2) := by decide +kernel
theorem dX6_two_103 : decode cX6_two 103 = .ok (.if_icmp .le 5, 3) := by decide +kernel
theorem dX6_two_106 : decode cX6_two 106 = .ok (.iconst 0, 1) := by decide +kernel
theorem dX6_two_107 : decode cX6_two 107 = .ok (.ireturn, 1) := by decide +kernel
theorem dX6_two_108 : decode cX6_two 108 = .ok (.aload_n 0, 1) := by decide +kernel
theorem dX6_two_109 : decode cX6_two 109 = .ok (.lconst 1, 1) := by decide +kernel
theorem dX6_two_110 : decode cX6_two 110 = .ok (.invokevirtual 116, 3) := by decide +kernel
theorem dX6_two_113 : decode cX6_two 113 = .ok (.iload 5, 2) := by decide +kernel
theorem dX6_two_115 : decode cX6_two 115 = .ok (.ifCond .eq 36, 3) := by decide +kernel
theorem dX6_two_118 : decode cX6_two 118 = .ok (.aload_n 0, 1) := by decide +kernel
theorem dX6_two_119 : decode cX6_two 119 = .ok (.getfield 22, 3) := by decide +kernel
theorem dX6_two_122 : decode cX6_two 122 = .ok (.getfield 120, 3) := by decide +kernel
theorem dX6_two_125 : decode cX6_two 125 = .ok (.aload 6, 2) := by decide +kernel
theorem dX6_two_127 : decode cX6_two 127 = .ok (.aload 7, 2) := by decide +kernel
theorem dX6_two_129 : decode cX6_two 129 = .ok (.invokevirtual 172, 3) := by decide +kernel
theorem dX6_two_132 : decode cX6_two 132 = .ok (.aload_n 0, 1) := by decide +kernel
theorem dX6_two_133 : decode cX6_two 133 = .ok (.iload 8, 2) := by decide +kernel
theorem dX6_two_135 : decode cX6_two 135 = .ok (.iload 9, 2) := by decide +kernel
theorem dX6_two_137 : decode cX6_two 137 = .ok (.iadd, 1) := by decide +kernel
theorem dX6_two_138 : decode cX6_two 138 = .ok (.iload 10, 2) := by decide +kernel
theorem dX6_two_140 : decode cX6_two 140 = .ok (.iload 11, 2) := by decide +kernel
theorem dX6_two_142 : decode cX6_two 142 = .ok (.iadd, 1) := by decide +kernel
theorem dX6_two_143 : decode cX6_two 143 = .ok (.iload 4, 2) := by decide +kernel
theorem dX6_two_145 : decode cX6_two 145 = .ok (.invokevirtual 176, 3) := by decide +kernel
theorem dX6_two_148 : decode cX6_two 148 = .ok (.goto 49, 3) := by decide +kernel
theorem dX6_two_151 : decode cX6_two 151 = .ok (.aload_n 0, 1) := by decide +kernel
theorem dX6_two_152 : decode cX6_two 152 = .ok (.getfield 22, 3) := by decide +kernel
theorem dX6_two_155 : decode cX6_two 155 = .ok (.getfield 120, 3) := by decide +kernel
theorem dX6_two_158 : decode cX6_two 158 = .ok (.aload 6, 2) := by decide +kernel
theorem dX6_two_160 : decode cX6_two 160 = .ok (.iconst 1, 1) := by decide +kernel
theorem dX6_two_161 : decode cX6_two 161 = .ok (.invokevirtual 124, 3) := by decide +kernel
theorem dX6_two_164 : decode cX6_two 164 = .ok (.aload_n 0, 1) := by decide +kernel
theorem dX6_two_165 : decode cX6_two 165 = .ok (.iload 8, 2) := by decide +kernel
theorem dX6_two_167 : decode cX6_two 167 = .ok (.iload 10, 2) := by decide +kernel
theorem dX6_two_169 : decode cX6_two 169 = .ok (.iload 4, 2) := by decide +kernel
theorem dX6_two_171 : decode cX6_two 171 = .ok (.invokevirtual 176, 3) := by decide +kernel
theorem dX6_two_174 : decode cX6_two 174 = .ok (.aload_n 0, 1) := by decide +kernel
theorem dX6_two_175 : decode cX6_two 175 = .ok (.getfield 22, 3) := by decide +kernel
theorem dX6_two_178 : decode cX6_two 178 = .ok (.getfield 120, 3) := by decide +kernel
theorem dX6_two_181 : decode cX6_two 181 = .ok (.aload 7, 2) := by decide +kernel
theorem dX6_two_183 : decode cX6_two 183 = .ok (.iconst 1, 1) := by decide +kernel
theorem dX6_two_184 : decode cX6_two 184 = .ok (.invokevirtual 124, 3) := by decide +kernel
theorem dX6_two_187 : decode cX6_two 187 = .ok (.aload_n 0, 1) := by decide +kernel
theorem dX6_two_188 : decode cX6_two 188 = .ok (.iload 9, 2) := by decide +kernel
theorem dX6_two_190 : decode cX6_two 190 = .ok (.iload 11, 2) := by decide +kernel
theorem dX6_two_192 : decode cX6_two 192 = .ok (.iload 4, 2) := by decide +kernel
theorem dX6_two_194 : decode cX6_two 194 = .ok (.invokevirtual 176, 3) := by decide +kernel
theorem dX6_two_197 : decode cX6_two 197 = .ok (.iconst 1, 1) := by decide +kernel
theorem dX6_two_198 : decode cX6_two 198 = .ok (.ireturn, 1) := by decide +kernel
theorem dX6_digit_0 : decode cX6_digit 0 = .ok (.iload_n 1, 1) := by decide +kernel
theorem dX6_digit_1 : decode cX6_digit 1 = .ok (.iconst 0, 1) := by decide +kernel
theorem dX6_digit_2 : decode cX6_digit 2 = .ok (.aload_n 0, 1) := by decide +kernel
theorem dX6_digit_3 : decode cX6_digit 3 = .ok (.getfield 58, 3) := by decide +kernel
theorem dX6_digit_6 : decode cX6_digit 6 = .ok (.invokestatic 70, 3) := by decide +kernel
theorem dX6_digit_9 : decode cX6_digit 9 = .ok (.ifCond .ne 5, 3) := by decide +kernel
theorem dX6_digit_12 : decode cX6_digit 12 = .ok (.iconst (-1), 1) := by decide +kernel
theorem dX6_digit_13 : decode cX6_digit 13 = .ok (.ireturn, 1) := by decide +kernel
theorem dX6_digit_14 : decode cX6_digit 14 = .ok (.iload_n 1, 1) := by decide +kernel
theorem dX6_digit_15 : decode cX6_digit 15 = .ok (.ifCond .le 18, 3) := by decide +kernel
theorem dX6_digit_18 : decode cX6_digit 18 = .ok (.aload_n 0, 1) := by decide +kernel
theorem dX6_digit_19 : decode cX6_digit 19 = .ok (.getfield 45, 3) := by decide +kernel
theorem dX6_digit_22 : decode cX6_digit 22 = .ok (.iconst 0, 1) := by decide +kernel
theorem dX6_digit_23 : decode cX6_digit 23 = .ok (.aload_n 0, 1) := by decide +kernel
theorem dX6_digit_24 : decode cX6_digit 24 = .ok (.getfield 58, 3) := by decide +kernel
theorem dX6_digit_27 : decode cX6_digit 27 = .ok (.iload_n 1, 1) := by decide +kernel
theorem dX6_digit_28 : decode cX6_digit 28 = .ok (.isub, 1) := by decide +kernel
theorem dX6_digit_29 : decode cX6_digit 29 = .ok (.invokevirtual 144, 3) := by decide +kernel
theorem dX6_digit_32 : decode cX6_digit 32 = .ok (.ireturn, 1) := by decide +kernel
theorem dX6_digit_33 : decode cX6_digit 33 = .ok (.iconst 0, 1) := by decide +kernel
theorem dX6_digit_34 : decode cX6_digit 34 = .ok (.istore_n 2, 1) := by decide +kernel
theorem dX6_digit_35 : decode cX6_digit 35 = .ok (.aload_n 0, 1) := by decide +kernel
theorem dX6_digit_36 : decode cX6_digit 36 = .ok (.getfield 58, 3) := by decide +kernel
theorem dX6_digit_39 : decode cX6_digit 39 = .ok (.iconst 2, 1) := by decide +kernel
theorem dX6_digit_40 : decode cX6_digit 40 = .ok (.iadd, 1) := by decide +kernel
theorem dX6_digit_41 : decode cX6_digit 41 = .ok (.istore_n 3, 1) := by decide +kernel
theorem dX6_digit_42 : decode cX6_digit 42 = .ok (.iload_n 3, 1) := by decide +kernel
theorem dX6_digit_43 : decode cX6_digit 43 = .ok (.aload_n 0, 1) := by decide +kernel
theorem dX6_digit_44 : decode cX6_digit 44 = .ok (.getfield 58, 3) := by decide +kernel
theorem dX6_digit_47 : decode cX6_digit 47 = .ok (.if_icmp .lt 24, 3) := by decide +kernel
theorem dX6_digit_50 : decode cX6_digit 50 = .ok (.bipush 10, 2) := by decide +kernel
theorem dX6_digit_52 : decode cX6_digit 52 = .ok (.iload_n 2, 1) := by decide +kernel
theorem dX6_digit_53 : decode cX6_digit 53 = .ok (.imul, 1) := by decide +kernel
theorem dX6_digit_54 : decode cX6_digit 54 = .ok (.aload_n 0, 1) := by decide +kernel
theorem dX6_digit_55 : decode cX6_digit 55 = .ok (.getfield 45, 3) := by decide +kernel
theorem dX6_digit_58 : decode cX6_digit 58 = .ok (.iconst 0, 1) := by decide +kernel
theorem dX6_digit_59 : decode cX6_digit 59 = .ok (.iload_n 3, 1) := by decide +kernel
theorem dX6_digit_60 : decode cX6_digit 60 = .ok (.invokevirtual 144, 3) := by decide +kernel
theorem dX6_digit_63 : decode cX6_digit 63 = .ok (.iadd, 1) := by decide +kernel
theorem dX6_digit_64 : decode cX6_digit 64 = .ok (.istore_n 2, 1) := by decide +kernel
theorem dX6_digit_65 : decode cX6_digit 65 = .ok (.iinc 3 (-1), 3) := by decide +kernel
theorem dX6_digit_68 : decode cX6_digit 68 = .ok (.goto (-26), 3) := by decide +kernel
theorem dX6_digit_71 : decode cX6_digit 71 = .ok (.iload_n 2, 1) := by decide +kernel
theorem dX6_digit_72 : decode cX6_digit 72 = .ok (.ireturn, 1) := by decide +kernel
theorem dX6_decimals_0 : decode cX6_decimals 0 = .ok (.aload_n 0, 1) := by decide +kernel
theorem dX6_decimals_1 : decode cX6_decimals 1 = .ok (.getfield 58, 3) := by decide +kernel
theorem dX6_decimals_4 : decode cX6_decimals 4 = .ok (.ireturn, 1) := by decide +kernel
theorem dX6_just_0 : decode cX6_just 0 = .ok (.aload_n 0, 1) := by decide +kernel
theorem dX6_just_1 : decode cX6_just 1 = .ok (.iload_n 2, 1) := by decide +kernel
theorem dX6_just_2 : decode cX6_just 2 = .ok (.invokevirtual 81, 3) := by decide +kernel
theorem dX6_just_5 : decode cX6_just 5 = .ok (.astore 5, 2) := by decide +kernel
theorem dX6_just_7 : decode cX6_just 7 = .ok (.aload 5, 2) := by decide +kernel
theorem dX6_just_9 : decode cX6_just 9 = .ok (.ifnull 34, 3) := by decide +kernel
theorem dX6_just_12 : decode cX6_just 12 = .ok (.iload_n 1, 1) := by decide +kernel
theorem dX6_just_13 : decode cX6_just 13 = .ok (.iconst 0, 1) := by decide +kernel
theorem dX6_just_14 : decode cX6_just 14 = .ok (.bipush 100, 2) := by decide +kernel
theorem dX6_just_16 : decode cX6_just 16 = .ok (.invokestatic 70, 3) := by decide +kernel
theorem dX6_just_19 : decode cX6_just 19 = .ok (.ifCond .eq 24, 3) := by decide +kernel
theorem dX6_just_22 : decode cX6_just 22 = .ok (.iload_n 3, 1) := by decide +kernel
theorem dX6_just_23 : decode cX6_just 23 = .ok (.iconst 1, 1) := by decide +kernel
theorem dX6_just_24 : decode cX6_just 24 = .ok (.bipush 12, 2) := by decide +kernel
theorem dX6_just_26 : decode cX6_just 26 = .ok (.invokestatic 70, 3) := by decide +kernel
theorem dX6_just_29 : decode cX6_just 29 = .ok (.ifCond .eq 14, 3) := by decide +kernel
theorem dX6_just_32 : decode cX6_just 32 = .ok (.iload 4, 2) := by decide +kernel
theorem dX6_just_34 : decode cX6_just 34 = .ok (.iconst 0, 1) := by decide +kernel
theorem dX6_just_35 : decode cX6_just 35 = .ok (.ldc 180, 2) := by decide +kernel
theorem dX6_just_37 : decode cX6_just 37 = .ok (.invokestatic 70, 3) := by decide +kernel
theorem dX6_just_40 : decode cX6_just 40 = .ok (.ifCond .ne 5, 3) := by decide +kernel
theorem dX6_just_43 : decode cX6_just 43 = .ok (.iconst (-1), 1) := by decide +kernel
theorem dX6_just_44 : decode cX6_just 44 = .ok (.ireturn, 1) := by decide +kernel
theorem dX6_just_45 : decode cX6_just 45 = .ok (.aload_n 0, 1) := by decide +kernel
theorem dX6_just_46 : decode cX6_just 46 = .ok (.getfield 22, 3) := by decide +kernel
theorem dX6_just_49 : decode cX6_just 49 = .ok (.getfield 120, 3) := by decide +kernel
theorem dX6_just_52 : decode cX6_just 52 = .ok (.aload 5, 2) := by decide +kernel
theorem dX6_just_54 : decode cX6_just 54 = .ok (.iconst 1, 1) := by decide +kernel
theorem dX6_just_55 : decode cX6_just 55 = .ok (.invokevirtual 124, 3) := by decide +kernel
theorem dX6_just_58 : decode cX6_just 58 = .ok (.aload_n 0, 1) := by decide +kernel
theorem dX6_just_59 : decode cX6_just 59 = .ok (.iload_n 1, 1) := by decide +kernel
theorem dX6_just_60 : decode cX6_just 60 = .ok (.iload_n 3, 1) := by decide +kernel
theorem dX6_just_61 : decode cX6_just 61 = .ok (.iload 4, 2) := by decide +kernel
theorem dX6_just_63 : decode cX6_just 63 = .ok (.invokevirtual 181, 3) := by decide +kernel
theorem dX6_just_66 : decode cX6_just 66 = .ok (.ireturn, 1) := by decide +kernel
theorem dX6_lighter_0 : decode cX6_lighter 0 = .ok (.aload_n 0, 1) := by decide +kernel
theorem dX6_lighter_1 : decode cX6_lighter 1 = .ok (.iload_n 1, 1) := by decide +kernel
theorem dX6_lighter_2 : decode cX6_lighter 2 = .ok (.invokevirtual 81, 3) := by decide +kernel
theorem dX6_lighter_5 : decode cX6_lighter 5 = .ok (.astore_n 3, 1) := by decide +kernel
theorem dX6_lighter_6 : decode cX6_lighter 6 = .ok (.aload_n 0, 1) := by decide +kernel
theorem dX6_lighter_7 : decode cX6_lighter 7 = .ok (.iload_n 2, 1) := by decide +kernel
theorem dX6_lighter_8 : decode cX6_lighter 8 = .ok (.invokevirtual 81, 3) := by decide +kernel
theorem dX6_lighter_11 : decode cX6_lighter 11 = .ok (.astore 4, 2) := by decide +kernel
theorem dX6_lighter_13 : decode cX6_lighter 13 = .ok (.aload_n 3, 1) := by decide +kernel
theorem dX6_lighter_14 : decode cX6_lighter 14 = .ok (.ifnull 8, 3) := by decide +kernel
theorem dX6_lighter_17 : decode cX6_lighter 17 = .ok (.aload 4, 2) := by decide +kernel
theorem dX6_lighter_19 : decode cX6_lighter 19 = .ok (.ifnonnull 5, 3) := by decide +kernel
theorem dX6_lighter_22 : decode cX6_lighter 22 = .ok (.iconst 0, 1) := by decide +kernel
theorem dX6_lighter_23 : decode cX6_lighter 23 = .ok (.ireturn, 1) := by decide +kernel
theorem dX6_lighter_24 : decode cX6_lighter 24 = .ok (.iconst 0, 1) := by decide +kernel
theorem dX6_lighter_25 : decode cX6_lighter 25 = .ok (.istore 5, 2) := by decide +kernel
theorem dX6_lighter_27 : decode cX6_lighter 27 = .ok (.iload 5, 2) := by decide +kernel
theorem dX6_lighter_29 : decode cX6_lighter 29 = .ok (.bipush 20, 2) := by decide +kernel
theorem dX6_lighter_31 : decode cX6_lighter 31 = .ok (.if_icmp .gt 27, 3) := by decide +kernel
theorem dX6_lighter_34 : decode cX6_lighter 34 = .ok (.aload_n 3, 1) := by decide +kernel
theorem dX6_lighter_35 : decode cX6_lighter 35 = .ok (.iload 5, 2) := by decide +kernel
theorem dX6_lighter_37 : decode cX6_lighter 37 = .ok (.invokevirtual 91, 3) := by decide +kernel
theorem dX6_lighter_40 : decode cX6_lighter 40 = .ok (.aload 4, 2) := by decide +kernel
theorem dX6_lighter_42 : decode cX6_lighter 42 = .ok (.iload 5, 2) := by decide +kernel
theorem dX6_lighter_44 : decode cX6_lighter 44 = .ok (.invokevirtual 91, 3) := by decide +kernel
theorem dX6_lighter_47 : decode cX6_lighter 47 = .ok (.if_icmp .le 5, 3) := by decide +kernel
theorem dX6_lighter_50 : decode cX6_lighter 50 = .ok (.iconst 0, 1) := by decide +kernel
theorem dX6_lighter_51 : decode cX6_lighter 51 = .ok (.ireturn, 1) := by decide +kernel
theorem dX6_lighter_52 : decode cX6_lighter 52 = .ok (.iinc 5 1, 3) := by decide +kernel
theorem dX6_lighter_55 : decode cX6_lighter 55 = .ok (.goto (-28), 3) := by decide +kernel
theorem dX6_lighter_58 : decode cX6_lighter 58 = .ok (.iconst 1, 1) := by decide +kernel
theorem dX6_lighter_59 : decode cX6_lighter 59 = .ok (.ireturn, 1) := by decide +kernel
theorem dX6_isWithin_0 : decode cX6_isWithin 0 = .ok (.iload_n 0, 1) := by decide +kernel
theorem dX6_isWithin_1 : decode cX6_isWithin 1 = .ok (.iload_n 1, 1) := by decide +kernel
theorem dX6_isWithin_2 : decode cX6_isWithin 2 = .ok (.if_icmp .lt 12, 3) := by decide +kernel
theorem dX6_isWithin_5 : decode cX6_isWithin 5 = .ok (.iload_n 0, 1) := by decide +kernel
theorem dX6_isWithin_6 : decode cX6_isWithin 6 = .ok (.iload_n 2, 1) := by decide +kernel
theorem dX6_isWithin_7 : decode cX6_isWithin 7 = .ok (.if_icmp .gt 7, 3) := by decide +kernel
theorem dX6_isWithin_10 : decode cX6_isWithin 10 = .ok (.iconst 1, 1) := by decide +kernel
theorem dX6_isWithin_11 : decode cX6_isWithin 11 = .ok (.goto 4, 3) := by decide +kernel
theorem dX6_isWithin_14 : decode cX6_isWithin 14 = .ok (.iconst 0, 1) := by decide +kernel
theorem dX6_isWithin_15 : decode cX6_isWithin 15 = .ok (.ireturn, 1) := by decide +kernel
theorem dX6_findBook_0 : decode cX6_findBook 0 = .ok (.iload_n 1, 1) := by decide +kernel
theorem dX6_findBook_1 : decode cX6_findBook 1 = .ok (.ifCond .lt 21, 3) := by decide +kernel
theorem dX6_findBook_4 : decode cX6_findBook 4 = .ok (.iload_n 1, 1) := by decide +kernel
theorem dX6_findBook_5 : decode cX6_findBook 5 = .ok (.aload_n 0, 1) := by decide +kernel
theorem dX6_findBook_6 : decode cX6_findBook 6 = .ok (.getfield 11, 3) := by decide +kernel
theorem dX6_findBook_9 : decode cX6_findBook 9 = .ok (.arraylength, 1) := by decide +kernel
theorem dX6_findBook_10 : decode cX6_findBook 10 = .ok (.if_icmp .ge 12, 3) := by decide +kernel
theorem dX6_findBook_13 : decode cX6_findBook 13 = .ok (.aload_n 0, 1) := by decide +kernel
theorem dX6_findBook_14 : decode cX6_findBook 14 = .ok (.getfield 11, 3) := by decide +kernel
theorem dX6_findBook_17 : decode cX6_findBook 17 = .ok (.iload_n 1, 1) := by decide +kernel
theorem dX6_findBook_18 : decode cX6_findBook 18 = .ok (.aaload, 1) := by decide +kernel
theorem dX6_findBook_19 : decode cX6_findBook 19 = .ok (.goto 4, 3) := by decide +kernel
theorem dX6_findBook_22 : decode cX6_findBook 22 = .ok (.aconst_null, 1) := by decide +kernel
theorem dX6_findBook_23 : decode cX6_findBook 23 = .ok (.areturn, 1) := by decide +kernel
theorem dX6_findRight_0 : decode cX6_findRight 0 = .ok (.aload_n 0, 1) := by decide +kernel
theorem dX6_findRight_1 : decode cX6_findRight 1 = .ok (.iload_n 1, 1) := by decide +kernel
theorem dX6_findRight_2 : decode cX6_findRight 2 = .ok (.invokevirtual 66, 3) := by decide +kernel
theorem dX6_findRight_5 : decode cX6_findRight 5 = .ok (.astore_n 2, 1) := by decide +kernel
theorem dX6_findRight_6 : decode cX6_findRight 6 = .ok (.aload_n 2, 1) := by decide +kernel
theorem dX6_findRight_7 : decode cX6_findRight 7 = .ok (.ifnull 14, 3) := by decide +kernel
theorem dX6_findRight_10 : decode cX6_findRight 10 = .ok (.aload_n 2, 1) := by decide +kernel
theorem dX6_findRight_11 : decode cX6_findRight 11 = .ok (.invokevirtual 184, 3) := by decide +kernel
theorem dX6_findRight_14 : decode cX6_findRight 14 = .ok (.ifCond .eq 7, 3) := by decide +kernel
theorem dX6_findRight_17 : decode cX6_findRight 17 = .ok (.aload_n 2, 1) := by decide +kernel
theorem dX6_findRight_18 : decode cX6_findRight 18 = .ok (.goto 4, 3) := by decide +kernel
theorem dX6_findRight_21 : decode cX6_findRight 21 = .ok (.aconst_null, 1) := by decide +kernel
theorem dX6_findRight_22 : decode cX6_findRight 22 = .ok (.areturn, 1) := by decide +kernel
theorem dX6_move_0 : decode cX6_move 0 = .ok (.iload_n 1, 1) := by decide +kernel
theorem dX6_move_1 : decode cX6_move 1 = .ok (.ifCond .lt 22, 3) := by decide +kernel
theorem dX6_move_4 : decode cX6_move 4 = .ok (.iload_n 1, 1) := by decide +kernel
theorem dX6_move_5 : decode cX6_move 5 = .ok (.aload_n 0, 1) := by decide +kernel
theorem dX6_move_6 : decode cX6_move 6 = .ok (.getfield 15, 3) := by decide +kernel
theorem dX6_move_9 : decode cX6_move 9 = .ok (.arraylength, 1) := by decide +kernel
theorem dX6_move_10 : decode cX6_move 10 = .ok (.if_icmp .ge 13, 3) := by decide +kernel
theorem dX6_move_13 : decode cX6_move 13 = .ok (.aload_n 0, 1) := by decide +kernel
theorem dX6_move_14 : decode cX6_move 14 = .ok (.getfield 15, 3) := by decide +kernel
theorem dX6_move_17 : decode cX6_move 17 = .ok (.iload_n 1, 1) := by decide +kernel
theorem dX6_move_18 : decode cX6_move 18 = .ok (.dup2, 1) := by decide +kernel
theorem dX6_move_19 : decode cX6_move 19 = .ok (.iaload, 1) := by decide +kernel
theorem dX6_move_20 : decode cX6_move 20 = .ok (.iload_n 2, 1) := by decide +kernel
theorem dX6_move_21 : decode cX6_move 21 = .ok (.iadd, 1) := by decide +kernel
theorem dX6_move_22 : decode cX6_move 22 = .ok (.iastore, 1) := by decide +kernel
theorem dX6_move_23 : decode cX6_move 23 = .ok (.return_, 1) := by decide +kernel
theorem dX6_writeMoved_0 : decode cX6_writeMoved 0 = .ok (.iconst 0, 1) := by decide +kernel
theorem dX6_writeMoved_1 : decode cX6_writeMoved 1 = .ok (.istore_n 2, 1) := by decide +kernel
theorem dX6_writeMoved_2 : decode cX6_writeMoved 2 = .ok (.iload_n 2, 1) := by decide +kernel
theorem dX6_writeMoved_3 : decode cX6_writeMoved 3 = .ok (.aload_n 0, 1) := by decide +kernel
theorem dX6_writeMoved_4 : decode cX6_writeMoved 4 = .ok (.getfield 15, 3) := by decide +kernel
theorem dX6_writeMoved_7 : decode cX6_writeMoved 7 = .ok (.arraylength, 1) := by decide +kernel
theorem dX6_writeMoved_8 : decode cX6_writeMoved 8 = .ok (.if_icmp .ge 20, 3) := by decide +kernel
theorem dX6_writeMoved_11 : decode cX6_writeMoved 11 = .ok (.aload_n 1, 1) := by decide +kernel
theorem dX6_writeMoved_12 : decode cX6_writeMoved 12 = .ok (.iload_n 2, 1) := by decide +kernel
theorem dX6_writeMoved_13 : decode cX6_writeMoved 13 = .ok (.aload_n 0, 1) := by decide +kernel
theorem dX6_writeMoved_14 : decode cX6_writeMoved 14 = .ok (.getfield 15, 3) := by decide +kernel
theorem dX6_writeMoved_17 : decode cX6_writeMoved 17 = .ok (.iload_n 2, 1) := by decide +kernel
theorem dX6_writeMoved_18 : decode cX6_writeMoved 18 = .ok (.iaload, 1) := by decide +kernel
theorem dX6_writeMoved_19 : decode cX6_writeMoved 19 = .ok (.invokevirtual 74, 3) := by decide +kernel
theorem dX6_writeMoved_22 : decode cX6_writeMoved 22 = .ok (.iinc 2 1, 3) := by decide +kernel
theorem dX6_writeMoved_25 : decode cX6_writeMoved 25 = .ok (.goto (-23), 3) := by decide +kernel
theorem dX6_writeMoved_28 : decode cX6_writeMoved 28 = .ok (.return_, 1) := by decide +kernel
theorem dX6_startNumber_0 : decode cX6_startNumber 0 = .ok (.aload_n 0, 1) := by decide +kernel
theorem dX6_startNumber_1 : decode cX6_startNumber 1 = .ok (.getfield 45, 3) := by decide +kernel
theorem dX6_startNumber_4 : decode cX6_startNumber 4 = .ok (.invokevirtual 134, 3) := by decide +kernel
theorem dX6_startNumber_7 : decode cX6_startNumber 7 = .ok (.aload_n 0, 1) := by decide +kernel
theorem dX6_startNumber_8 : decode cX6_startNumber 8 = .ok (.getfield 45, 3) := by decide +kernel
theorem dX6_startNumber_11 : decode cX6_startNumber 11 = .ok (.iconst 0, 1) := by decide +kernel
theorem dX6_startNumber_12 : decode cX6_startNumber 12 = .ok (.lload_n 1, 1) := by decide +kernel
theorem dX6_startNumber_13 : decode cX6_startNumber 13 = .ok (.invokevirtual 188, 3) := by decide +kernel
theorem dX6_startNumber_16 : decode cX6_startNumber 16 = .ok (.aload_n 0, 1) := by decide +kernel
theorem dX6_startNumber_17 : decode cX6_startNumber 17 = .ok (.iconst 0, 1) := by decide +kernel
theorem dX6_startNumber_18 : decode cX6_startNumber 18 = .ok (.putfield 58, 3) := by decide +kernel
theorem dX6_startNumber_21 : decode cX6_startNumber 21 = .ok (.return_, 1) := by decide +kernel
theorem dX6_noteTick_0 : decode cX6_noteTick 0 = .ok (.iconst 1, 1) := by decide +kernel
theorem dX6_noteTick_1 : decode cX6_noteTick 1 = .ok (.istore_n 2, 1) := by decide +kernel
theorem dX6_noteTick_2 : decode cX6_noteTick 2 = .ok (.iload_n 2, 1) := by decide +kernel
theorem dX6_noteTick_3 : decode cX6_noteTick 3 = .ok (.bipush 20, 2) := by decide +kernel
theorem dX6_noteTick_5 : decode cX6_noteTick 5 = .ok (.if_icmp .gt 55, 3) := by decide +kernel
theorem dX6_noteTick_8 : decode cX6_noteTick 8 = .ok (.aload_n 0, 1) := by decide +kernel
theorem dX6_noteTick_9 : decode cX6_noteTick 9 = .ok (.getfield 22, 3) := by decide +kernel
theorem dX6_noteTick_12 : decode cX6_noteTick 12 = .ok (.iload_n 2, 1) := by decide +kernel
theorem dX6_noteTick_13 : decode cX6_noteTick 13 = .ok (.invokevirtual 192, 3) := by decide +kernel
theorem dX6_noteTick_16 : decode cX6_noteTick 16 = .ok (.aload_n 0, 1) := by decide +kernel
theorem dX6_noteTick_17 : decode cX6_noteTick 17 = .ok (.getfield 52, 3) := by decide +kernel
theorem dX6_noteTick_20 : decode cX6_noteTick 20 = .ok (.iload_n 1, 1) := by decide +kernel
theorem dX6_noteTick_21 : decode cX6_noteTick 21 = .ok (.lconst 1, 1) := by decide +kernel
theorem dX6_noteTick_22 : decode cX6_noteTick 22 = .ok (.aload_n 0, 1) := by decide +kernel
theorem dX6_noteTick_23 : decode cX6_noteTick 23 = .ok (.getfield 22, 3) := by decide +kernel
theorem dX6_noteTick_26 : decode cX6_noteTick 26 = .ok (.getfield 195, 3) := by decide +kernel
theorem dX6_noteTick_29 : decode cX6_noteTick 29 = .ok (.iconst 0, 1) := by decide +kernel
theorem dX6_noteTick_30 : decode cX6_noteTick 30 = .ok (.lconst 1, 1) := by decide +kernel
theorem dX6_noteTick_31 : decode cX6_noteTick 31 = .ok (.invokevirtual 198, 3) := by decide +kernel
theorem dX6_noteTick_34 : decode cX6_noteTick 34 = .ok (.aload_n 0, 1) := by decide +kernel
theorem dX6_noteTick_35 : decode cX6_noteTick 35 = .ok (.getfield 55, 3) := by decide +kernel
theorem dX6_noteTick_38 : decode cX6_noteTick 38 = .ok (.iload_n 2, 1) := by decide +kernel
theorem dX6_noteTick_39 : decode cX6_noteTick 39 = .ok (.ldc2_w 202, 3) := by decide +kernel
theorem dX6_noteTick_42 : decode cX6_noteTick 42 = .ok (.aload_n 0, 1) := by decide +kernel
theorem dX6_noteTick_43 : decode cX6_noteTick 43 = .ok (.getfield 22, 3) := by decide +kernel
theorem dX6_noteTick_46 : decode cX6_noteTick 46 = .ok (.getfield 195, 3) := by decide +kernel
theorem dX6_noteTick_49 : decode cX6_noteTick 49 = .ok (.iconst 0, 1) := by decide +kernel
theorem dX6_noteTick_50 : decode cX6_noteTick 50 = .ok (.lconst 1, 1) := by decide +kernel
theorem dX6_noteTick_51 : decode cX6_noteTick 51 = .ok (.invokevirtual 198, 3) := by decide +kernel
theorem dX6_noteTick_54 : decode cX6_noteTick 54 = .ok (.iinc 2 1, 3) := by decide +kernel
theorem dX6_noteTick_57 : decode cX6_noteTick 57 = .ok (.goto (-55), 3) := by decide +kernel
theorem dX6_noteTick_60 : decode cX6_noteTick 60 = .ok (.aload_n 0, 1) := by decide +kernel
theorem dX6_noteTick_61 : decode cX6_noteTick 61 = .ok (.getfield 45, 3) := by decide +kernel
theorem dX6_noteTick_64 : decode cX6_noteTick 64 = .ok (.iconst 0, 1) := by decide +kernel
theorem dX6_noteTick_65 : decode cX6_noteTick 65 = .ok (.ldc2_w 202, 3) := by decide +kernel
theorem dX6_noteTick_68 : decode cX6_noteTick 68 = .ok (.aload_n 0, 1) := by decide +kernel
theorem dX6_noteTick_69 : decode cX6_noteTick 69 = .ok (.getfield 52, 3) := by decide +kernel
theorem dX6_noteTick_72 : decode cX6_noteTick 72 = .ok (.iload_n 1, 1) := by decide +kernel
theorem dX6_noteTick_73 : decode cX6_noteTick 73 = .ok (.lconst 1, 1) := by decide +kernel
theorem dX6_noteTick_74 : decode cX6_noteTick 74 = .ok (.invokevirtual 198, 3) := by decide +kernel
theorem dX6_noteTick_77 : decode cX6_noteTick 77 = .ok (.return_, 1) := by decide +kernel
theorem dX6_stand_0 : decode cX6_stand 0 = .ok (.aload_n 0, 1) := by decide +kernel
theorem dX6_stand_1 : decode cX6_stand 1 = .ok (.getfield 22, 3) := by decide +kernel
theorem dX6_stand_4 : decode cX6_stand 4 = .ok (.iload_n 1, 1) := by decide +kernel
theorem dX6_stand_5 : decode cX6_stand 5 = .ok (.iload_n 2, 1) := by decide +kernel
theorem dX6_stand_6 : decode cX6_stand 6 = .ok (.iload_n 3, 1) := by decide +kernel
theorem dX6_stand_7 : decode cX6_stand 7 = .ok (.aload_n 0, 1) := by decide +kernel
theorem dX6_stand_8 : decode cX6_stand 8 = .ok (.getfield 45, 3) := by decide +kernel
theorem dX6_stand_11 : decode cX6_stand 11 = .ok (.aload_n 0, 1) := by decide +kernel
theorem dX6_stand_12 : decode cX6_stand 12 = .ok (.getfield 58, 3) := by decide +kernel
theorem dX6_stand_15 : decode cX6_stand 15 = .ok (.invokevirtual 130, 3) := by decide +kernel
theorem dX6_stand_18 : decode cX6_stand 18 = .ok (.aload_n 0, 1) := by decide +kernel
theorem dX6_stand_19 : decode cX6_stand 19 = .ok (.getfield 22, 3) := by decide +kernel
theorem dX6_stand_22 : decode cX6_stand 22 = .ok (.invokevirtual 204, 3) := by decide +kernel
theorem dX6_stand_25 : decode cX6_stand 25 = .ok (.iconst 0, 1) := by decide +kernel
theorem dX6_stand_26 : decode cX6_stand 26 = .ok (.istore 4, 2) := by decide +kernel
theorem dX6_stand_28 : decode cX6_stand 28 = .ok (.iload 4, 2) := by decide +kernel
theorem dX6_stand_30 : decode cX6_stand 30 = .ok (.iload_n 3, 1) := by decide +kernel
theorem dX6_stand_31 : decode cX6_stand 31 = .ok (.if_icmp .ge 28, 3) := by decide +kernel
theorem dX6_stand_34 : decode cX6_stand 34 = .ok (.aload_n 0, 1) := by decide +kernel
theorem dX6_stand_35 : decode cX6_stand 35 = .ok (.getfield 45, 3) := by decide +kernel
theorem dX6_stand_38 : decode cX6_stand 38 = .ok (.iconst 0, 1) := by decide +kernel
theorem dX6_stand_39 : decode cX6_stand 39 = .ok (.aload_n 0, 1) := by decide +kernel
theorem dX6_stand_40 : decode cX6_stand 40 = .ok (.getfield 22, 3) := by decide +kernel
theorem dX6_stand_43 : decode cX6_stand 43 = .ok (.getfield 120, 3) := by decide +kernel
theorem dX6_stand_46 : decode cX6_stand 46 = .ok (.getfield 207, 3) := by decide +kernel
theorem dX6_stand_49 : decode cX6_stand 49 = .ok (.lconst 0, 1) := by decide +kernel
theorem dX6_stand_50 : decode cX6_stand 50 = .ok (.invokevirtual 156, 3) := by decide +kernel
theorem dX6_stand_53 : decode cX6_stand 53 = .ok (.iinc 4 1, 3) := by decide +kernel
theorem dX6_stand_56 : decode cX6_stand 56 = .ok (.goto (-28), 3) := by decide +kernel
theorem dX6_stand_59 : decode cX6_stand 59 = .ok (.aload_n 0, 1) := by decide +kernel
theorem dX6_stand_60 : decode cX6_stand 60 = .ok (.getfield 45, 3) := by decide +kernel
theorem dX6_stand_63 : decode cX6_stand 63 = .ok (.iconst 0, 1) := by decide +kernel
theorem dX6_stand_64 : decode cX6_stand 64 = .ok (.lconst 1, 1) := by decide +kernel
theorem dX6_stand_65 : decode cX6_stand 65 = .ok (.aload_n 0, 1) := by decide +kernel
theorem dX6_stand_66 : decode cX6_stand 66 = .ok (.getfield 22, 3) := by decide +kernel
theorem dX6_stand_69 : decode cX6_stand 69 = .ok (.getfield 211, 3) := by decide +kernel
theorem dX6_stand_72 : decode cX6_stand 72 = .ok (.iconst 0, 1) := by decide +kernel
theorem dX6_stand_73 : decode cX6_stand 73 = .ok (.ldc2_w 214, 3) := by decide +kernel
theorem dX6_stand_76 : decode cX6_stand 76 = .ok (.invokevirtual 198, 3) := by decide +kernel
theorem dX6_stand_79 : decode cX6_stand 79 = .ok (.aload_n 0, 1) := by decide +kernel
theorem dX6_stand_80 : decode cX6_stand 80 = .ok (.dup, 1) := by decide +kernel
theorem dX6_stand_81 : decode cX6_stand 81 = .ok (.getfield 58, 3) := by decide +kernel
theorem dX6_stand_84 : decode cX6_stand 84 = .ok (.iload_n 3, 1) := by decide +kernel
theorem dX6_stand_85 : decode cX6_stand 85 = .ok (.aload_n 0, 1) := by decide +kernel
theorem dX6_stand_86 : decode cX6_stand 86 = .ok (.getfield 22, 3) := by decide +kernel
theorem dX6_stand_89 : decode cX6_stand 89 = .ok (.getfield 120, 3) := by decide +kernel
theorem dX6_stand_92 : decode cX6_stand 92 = .ok (.getfield 216, 3) := by decide +kernel
theorem dX6_stand_95 : decode cX6_stand 95 = .ok (.imul, 1) := by decide +kernel
theorem dX6_stand_96 : decode cX6_stand 96 = .ok (.iadd, 1) := by decide +kernel
theorem dX6_stand_97 : decode cX6_stand 97 = .ok (.putfield 58, 3) := by decide +kernel
theorem dX6_stand_100 : decode cX6_stand 100 = .ok (.return_, 1) := by decide +kernel
theorem dX6_findPremium_0 : decode cX6_findPremium 0 = .ok (.iconst 0, 1) := by decide +kernel
theorem dX6_findPremium_1 : decode cX6_findPremium 1 = .ok (.istore 4, 2) := by decide +kernel
theorem dX6_findPremium_3 : decode cX6_findPremium 3 = .ok (.bipush 20, 2) := by decide +kernel
theorem dX6_findPremium_5 : decode cX6_findPremium 5 = .ok (.istore 5, 2) := by decide +kernel
theorem dX6_findPremium_7 : decode cX6_findPremium 7 = .ok (.iconst 0, 1) := by decide +kernel
theorem dX6_findPremium_8 : decode cX6_findPremium 8 = .ok (.istore 6, 2) := by decide +kernel
theorem dX6_findPremium_10 : decode cX6_findPremium 10 = .ok (.iload 6, 2) := by decide +kernel
theorem dX6_findPremium_12 : decode cX6_findPremium 12 = .ok (.bipush 20, 2) := by decide +kernel
theorem dX6_findPremium_14 : decode cX6_findPremium 14 = .ok (.if_icmp .ge 50, 3) := by decide +kernel
theorem dX6_findPremium_17 : decode cX6_findPremium 17 = .ok (.iload 4, 2) := by decide +kernel
theorem dX6_findPremium_19 : decode cX6_findPremium 19 = .ok (.iload 5, 2) := by decide +kernel
theorem dX6_findPremium_21 : decode cX6_findPremium 21 = .ok (.if_icmp .ge 43, 3) := by decide +kernel
theorem dX6_findPremium_24 : decode cX6_findPremium 24 = .ok (.iload 4, 2) := by decide +kernel
theorem dX6_findPremium_26 : decode cX6_findPremium 26 = .ok (.iload 5, 2) := by decide +kernel
theorem dX6_findPremium_28 : decode cX6_findPremium 28 = .ok (.iadd, 1) := by decide +kernel
theorem dX6_findPremium_29 : decode cX6_findPremium 29 = .ok (.iconst 2, 1) := by decide +kernel
theorem dX6_findPremium_30 : decode cX6_findPremium 30 = .ok (.idiv, 1) := by decide +kernel
theorem dX6_findPremium_31 : decode cX6_findPremium 31 = .ok (.istore 7, 2) := by decide +kernel
theorem dX6_findPremium_33 : decode cX6_findPremium 33 = .ok (.aload_n 0, 1) := by decide +kernel
theorem dX6_findPremium_34 : decode cX6_findPremium 34 = .ok (.iload_n 1, 1) := by decide +kernel
theorem dX6_findPremium_35 : decode cX6_findPremium 35 = .ok (.iload 7, 2) := by decide +kernel
theorem dX6_findPremium_37 : decode cX6_findPremium 37 = .ok (.iload_n 2, 1) := by decide +kernel
theorem dX6_findPremium_38 : decode cX6_findPremium 38 = .ok (.iload_n 3, 1) := by decide +kernel
theorem dX6_findPremium_39 : decode cX6_findPremium 39 = .ok (.invokevirtual 219, 3) := by decide +kernel
theorem dX6_findPremium_42 : decode cX6_findPremium 42 = .ok (.ifCond .eq 10, 3) := by decide +kernel
theorem dX6_findPremium_45 : decode cX6_findPremium 45 = .ok (.iload 7, 2) := by decide +kernel
theorem dX6_findPremium_47 : decode cX6_findPremium 47 = .ok (.istore 5, 2) := by decide +kernel
theorem dX6_findPremium_49 : decode cX6_findPremium 49 = .ok (.goto 9, 3) := by decide +kernel
theorem dX6_findPremium_52 : decode cX6_findPremium 52 = .ok (.iload 7, 2) := by decide +kernel
theorem dX6_findPremium_54 : decode cX6_findPremium 54 = .ok (.iconst 1, 1) := by decide +kernel
theorem dX6_findPremium_55 : decode cX6_findPremium 55 = .ok (.iadd, 1) := by decide +kernel
theorem dX6_findPremium_56 : decode cX6_findPremium 56 = .ok (.istore 4, 2) := by decide +kernel
theorem dX6_findPremium_58 : decode cX6_findPremium 58 = .ok (.iinc 6 1, 3) := by decide +kernel
theorem dX6_findPremium_61 : decode cX6_findPremium 61 = .ok (.goto (-51), 3) := by decide +kernel
theorem dX6_findPremium_64 : decode cX6_findPremium 64 = .ok (.iload 5, 2) := by decide +kernel
theorem dX6_findPremium_66 : decode cX6_findPremium 66 = .ok (.ireturn, 1) := by decide +kernel
theorem dX6_isEnough_0 : decode cX6_isEnough 0 = .ok (.aload_n 0, 1) := by decide +kernel
theorem dX6_isEnough_1 : decode cX6_isEnough 1 = .ok (.getfield 49, 3) := by decide +kernel
theorem dX6_isEnough_4 : decode cX6_isEnough 4 = .ok (.invokevirtual 134, 3) := by decide +kernel
theorem dX6_isEnough_7 : decode cX6_isEnough 7 = .ok (.aload_n 0, 1) := by decide +kernel
theorem dX6_isEnough_8 : decode cX6_isEnough 8 = .ok (.getfield 49, 3) := by decide +kernel
theorem dX6_isEnough_11 : decode cX6_isEnough 11 = .ok (.iconst 0, 1) := by decide +kernel
theorem dX6_isEnough_12 : decode cX6_isEnough 12 = .ok (.lconst 1, 1) := by decide +kernel
theorem dX6_isEnough_13 : decode cX6_isEnough 13 = .ok (.invokevirtual 188, 3) := by decide +kernel
theorem dX6_isEnough_16 : decode cX6_isEnough 16 = .ok (.aload_n 0, 1) := by decide +kernel
theorem dX6_isEnough_17 : decode cX6_isEnough 17 = .ok (.getfield 22, 3) := by decide +kernel
theorem dX6_isEnough_20 : decode cX6_isEnough 20 = .ok (.iload_n 1, 1) := by decide +kernel
theorem dX6_isEnough_21 : decode cX6_isEnough 21 = .ok (.iload_n 2, 1) := by decide +kernel
theorem dX6_isEnough_22 : decode cX6_isEnough 22 = .ok (.iload_n 3, 1) := by decide +kernel
theorem dX6_isEnough_23 : decode cX6_isEnough 23 = .ok (.aload_n 0, 1) := by decide +kernel
theorem dX6_isEnough_24 : decode cX6_isEnough 24 = .ok (.getfield 49, 3) := by decide +kernel
theorem dX6_isEnough_27 : decode cX6_isEnough 27 = .ok (.iconst 0, 1) := by decide +kernel
theorem dX6_isEnough_28 : decode cX6_isEnough 28 = .ok (.invokevirtual 130, 3) := by decide +kernel
theorem dX6_isEnough_31 : decode cX6_isEnough 31 = .ok (.aload_n 0, 1) := by decide +kernel
theorem dX6_isEnough_32 : decode cX6_isEnough 32 = .ok (.getfield 22, 3) := by decide +kernel
theorem dX6_isEnough_35 : decode cX6_isEnough 35 = .ok (.invokevirtual 204, 3) := by decide +kernel
theorem dX6_isEnough_38 : decode cX6_isEnough 38 = .ok (.aload_n 0, 1) := by decide +kernel
theorem dX6_isEnough_39 : decode cX6_isEnough 39 = .ok (.getfield 49, 3) := by decide +kernel
theorem dX6_isEnough_42 : decode cX6_isEnough 42 = .ok (.iconst 0, 1) := by decide +kernel
theorem dX6_isEnough_43 : decode cX6_isEnough 43 = .ok (.iload 4, 2) := by decide +kernel
theorem dX6_isEnough_45 : decode cX6_isEnough 45 = .ok (.i2l, 1) := by decide +kernel
theorem dX6_isEnough_46 : decode cX6_isEnough 46 = .ok (.invokevirtual 188, 3) := by decide +kernel
theorem dX6_isEnough_49 : decode cX6_isEnough 49 = .ok (.iconst 0, 1) := by decide +kernel
theorem dX6_isEnough_50 : decode cX6_isEnough 50 = .ok (.istore 5, 2) := by decide +kernel
theorem dX6_isEnough_52 : decode cX6_isEnough 52 = .ok (.iload 5, 2) := by decide +kernel
theorem dX6_isEnough_54 : decode cX6_isEnough 54 = .ok (.iload_n 3, 1) := by decide +kernel
theorem dX6_isEnough_55 : decode cX6_isEnough 55 = .ok (.if_icmp .ge 21, 3) := by decide +kernel
theorem dX6_isEnough_58 : decode cX6_isEnough 58 = .ok (.aload_n 0, 1) := by decide +kernel
theorem dX6_isEnough_59 : decode cX6_isEnough 59 = .ok (.getfield 49, 3) := by decide +kernel
theorem dX6_isEnough_62 : decode cX6_isEnough 62 = .ok (.iconst 0, 1) := by decide +kernel
theorem dX6_isEnough_63 : decode cX6_isEnough 63 = .ok (.ldc2_w 202, 3) := by decide +kernel
theorem dX6_isEnough_66 : decode cX6_isEnough 66 = .ok (.lconst 0, 1) := by decide +kernel
theorem dX6_isEnough_67 : decode cX6_isEnough 67 = .ok (.invokevirtual 156, 3) := by decide +kernel
theorem dX6_isEnough_70 : decode cX6_isEnough 70 = .ok (.iinc 5 1, 3) := by decide +kernel
theorem dX6_isEnough_73 : decode cX6_isEnough 73 = .ok (.goto (-21), 3) := by decide +kernel
theorem dX6_isEnough_76 : decode cX6_isEnough 76 = .ok (.aload_n 0, 1) := by decide +kernel
theorem dX6_isEnough_77 : decode cX6_isEnough 77 = .ok (.getfield 22, 3) := by decide +kernel
theorem dX6_isEnough_80 : decode cX6_isEnough 80 = .ok (.getfield 211, 3) := by decide +kernel
theorem dX6_isEnough_83 : decode cX6_isEnough 83 = .ok (.iconst 0, 1) := by decide +kernel
theorem dX6_isEnough_84 : decode cX6_isEnough 84 = .ok (.ldc2_w 223, 3) := by decide +kernel
theorem dX6_isEnough_87 : decode cX6_isEnough 87 = .ok (.lconst 0, 1) := by decide +kernel
theorem dX6_isEnough_88 : decode cX6_isEnough 88 = .ok (.invokevirtual 156, 3) := by decide +kernel
theorem dX6_isEnough_91 : decode cX6_isEnough 91 = .ok (.aload_n 0, 1) := by decide +kernel
theorem dX6_isEnough_92 : decode cX6_isEnough 92 = .ok (.getfield 22, 3) := by decide +kernel
theorem dX6_isEnough_95 : decode cX6_isEnough 95 = .ok (.getfield 211, 3) := by decide +kernel
theorem dX6_isEnough_98 : decode cX6_isEnough 98 = .ok (.iconst 0, 1) := by decide +kernel
theorem dX6_isEnough_99 : decode cX6_isEnough 99 = .ok (.aload_n 0, 1) := by decide +kernel
theorem dX6_isEnough_100 : decode cX6_isEnough 100 = .ok (.getfield 49, 3) := by decide +kernel
theorem dX6_isEnough_103 : decode cX6_isEnough 103 = .ok (.iconst 0, 1) := by decide +kernel
theorem dX6_isEnough_104 : decode cX6_isEnough 104 = .ok (.invokevirtual 225, 3) := by decide +kernel
theorem dX6_isEnough_107 : decode cX6_isEnough 107 = .ok (.ifCond .gt 7, 3) := by decide +kernel
theorem dX6_isEnough_110 : decode cX6_isEnough 110 = .ok (.iconst 1, 1) := by decide +kernel
theorem dX6_isEnough_111 : decode cX6_isEnough 111 = .ok (.goto 4, 3) := by decide +kernel
theorem dX6_isEnough_114 : decode cX6_isEnough 114 = .ok (.iconst 0, 1) := by decide +kernel
theorem dX6_isEnough_115 : decode cX6_isEnough 115 = .ok (.ireturn, 1) := by decide +kernel
theorem dX7_init_0 : decode cX7_init 0 = .ok (.aload_n 0, 1) := by decide +kernel
theorem dX7_init_1 : decode cX7_init 1 = .ok (.invokespecial 3, 3) := by decide +kernel
theorem dX7_init_4 : decode cX7_init 4 = .ok (.aload_n 0, 1) := by decide +kernel
theorem dX7_init_5 : decode cX7_init 5 = .ok (.bipush 8, 2) := by decide +kernel
theorem dX7_init_7 : decode cX7_init 7 = .ok (.bipush 21, 2) := by decide +kernel
theorem dX7_init_9 : decode cX7_init 9 = .ok (.multianewarray 9 2, 4) := by decide +kernel
theorem dX7_init_13 : decode cX7_init 13 = .ok (.putfield 11, 3) := by decide +kernel
theorem dX7_init_16 : decode cX7_init 16 = .ok (.aload_n 0, 1) := by decide +kernel
theorem dX7_init_17 : decode cX7_init 17 = .ok (.bipush 72, 2) := by decide +kernel
theorem dX7_init_19 : decode cX7_init 19 = .ok (.newarray .int, 2) := by decide +kernel
theorem dX7_init_21 : decode cX7_init 21 = .ok (.putfield 14, 3) := by decide +kernel
theorem dX7_init_24 : decode cX7_init 24 = .ok (.aload_n 0, 1) := by decide +kernel
theorem dX7_init_25 : decode cX7_init 25 = .ok (.bipush 41, 2) := by decide +kernel
theorem dX7_init_27 : decode cX7_init 27 = .ok (.bipush 72, 2) := by decide +kernel
theorem dX7_init_29 : decode cX7_init 29 = .ok (.multianewarray 9 2, 4) := by decide +kernel
theorem dX7_init_33 : decode cX7_init 33 = .ok (.putfield 18, 3) := by decide +kernel
theorem dX7_init_36 : decode cX7_init 36 = .ok (.aload_n 0, 1) := by decide +kernel
theorem dX7_init_37 : decode cX7_init 37 = .ok (.bipush 21, 2) := by decide +kernel
theorem dX7_init_39 : decode cX7_init 39 = .ok (.bipush 72, 2) := by decide +kernel
theorem dX7_init_41 : decode cX7_init 41 = .ok (.multianewarray 9 2, 4) := by decide +kernel
theorem dX7_init_45 : decode cX7_init 45 = .ok (.putfield 21, 3) := by decide +kernel
theorem dX7_init_48 : decode cX7_init 48 = .ok (.aload_n 0, 1) := by decide +kernel
theorem dX7_init_49 : decode cX7_init 49 = .ok (.bipush 21, 2) := by decide +kernel
theorem dX7_init_51 : decode cX7_init 51 = .ok (.newarray .int, 2) := by decide +kernel
theorem dX7_init_53 : decode cX7_init 53 = .ok (.putfield 24, 3) := by decide +kernel
theorem dX7_init_56 : decode cX7_init 56 = .ok (.aload_n 0, 1) := by decide +kernel
theorem dX7_init_57 : decode cX7_init 57 = .ok (.bipush 72, 2) := by decide +kernel
theorem dX7_init_59 : decode cX7_init 59 = .ok (.putfield 27, 3) := by decide +kernel
theorem dX7_init_62 : decode cX7_init 62 = .ok (.aload_n 0, 1) := by decide +kernel
theorem dX7_init_63 : decode cX7_init 63 = .ok (.bipush 72, 2) := by decide +kernel
theorem dX7_init_65 : decode cX7_init 65 = .ok (.newarray .int, 2) := by decide +kernel
theorem dX7_init_67 : decode cX7_init 67 = .ok (.putfield 31, 3) := by decide +kernel
theorem dX7_init_70 : decode cX7_init 70 = .ok (.aload_n 0, 1) := by decide +kernel
theorem dX7_init_71 : decode cX7_init 71 = .ok (.sipush 901, 3) := by decide +kernel
theorem dX7_init_74 : decode cX7_init 74 = .ok (.bipush 72, 2) := by decide +kernel
theorem dX7_init_76 : decode cX7_init 76 = .ok (.multianewarray 9 2, 4) := by decide +kernel
theorem dX7_init_80 : decode cX7_init 80 = .ok (.putfield 34, 3) := by decide +kernel
theorem dX7_init_83 : decode cX7_init 83 = .ok (.aload_n 0, 1) := by decide +kernel
theorem dX7_init_84 : decode cX7_init 84 = .ok (.sipush 901, 3) := by decide +kernel
theorem dX7_init_87 : decode cX7_init 87 = .ok (.bipush 72, 2) := by decide +kernel
theorem dX7_init_89 : decode cX7_init 89 = .ok (.multianewarray 9 2, 4) := by decide +kernel
theorem dX7_init_93 : decode cX7_init 93 = .ok (.putfield 37, 3) := by decide +kernel
theorem dX7_init_96 : decode cX7_init 96 = .ok (.aload_n 0, 1) := by decide +kernel
theorem dX7_init_97 : decode cX7_init 97 = .ok (.bipush 41, 2) := by decide +kernel
theorem dX7_init_99 : decode cX7_init 99 = .ok (.bipush 72, 2) := by decide +kernel
theorem dX7_init_101 : decode cX7_init 101 = .ok (.multianewarray 9 2, 4) := by decide +kernel
theorem dX7_init_105 : decode cX7_init 105 = .ok (.putfield 40, 3) := by decide +kernel
theorem dX7_init_108 : decode cX7_init 108 = .ok (.aload_n 0, 1) := by decide +kernel
theorem dX7_init_109 : decode cX7_init 109 = .ok (.bipush 21, 2) := by decide +kernel
theorem dX7_init_111 : decode cX7_init 111 = .ok (.bipush 72, 2) := by decide +kernel
theorem dX7_init_113 : decode cX7_init 113 = .ok (.multianewarray 9 2, 4) := by decide +kernel
theorem dX7_init_117 : decode cX7_init 117 = .ok (.putfield 43, 3) := by decide +kernel
theorem dX7_init_120 : decode cX7_init 120 = .ok (.aload_n 0, 1) := by decide +kernel
theorem dX7_init_121 : decode cX7_init 121 = .ok (.bipush 72, 2) := by decide +kernel
theorem dX7_init_123 : decode cX7_init 123 = .ok (.newarray .int, 2) := by decide +kernel
theorem dX7_init_125 : decode cX7_init 125 = .ok (.putfield 46, 3) := by decide +kernel
theorem dX7_init_128 : decode cX7_init 128 = .ok (.aload_n 0, 1) := by decide +kernel
theorem dX7_init_129 : decode cX7_init 129 = .ok (.bipush 72, 2) := by decide +kernel
theorem dX7_init_131 : decode cX7_init 131 = .ok (.newarray .int, 2) := by decide +kernel
theorem dX7_init_133 : decode cX7_init 133 = .ok (.putfield 49, 3) := by decide +kernel
theorem dX7_init_136 : decode cX7_init 136 = .ok (.aload_n 0, 1) := by decide +kernel
theorem dX7_init_137 : decode cX7_init 137 = .ok (.bipush 64, 2) := by decide +kernel
theorem dX7_init_139 : decode cX7_init 139 = .ok (.bipush 72, 2) := by decide +kernel
theorem dX7_init_141 : decode cX7_init 141 = .ok (.multianewarray 9 2, 4) := by decide +kernel
theorem dX7_init_145 : decode cX7_init 145 = .ok (.putfield 52, 3) := by decide +kernel
theorem dX7_init_148 : decode cX7_init 148 = .ok (.aload_n 0, 1) := by decide +kernel
theorem dX7_init_149 : decode cX7_init 149 = .ok (.bipush 64, 2) := by decide +kernel
theorem dX7_init_151 : decode cX7_init 151 = .ok (.bipush 72, 2) := by decide +kernel
theorem dX7_init_153 : decode cX7_init 153 = .ok (.multianewarray 9 2, 4) := by decide +kernel
theorem dX7_init_157 : decode cX7_init 157 = .ok (.putfield 55, 3) := by decide +kernel
theorem dX7_init_160 : decode cX7_init 160 = .ok (.aload_n 0, 1) := by decide +kernel
theorem dX7_init_161 : decode cX7_init 161 = .ok (.bipush 72, 2) := by decide +kernel
theorem dX7_init_163 : decode cX7_init 163 = .ok (.newarray .int, 2) := by decide +kernel
theorem dX7_init_165 : decode cX7_init 165 = .ok (.putfield 58, 3) := by decide +kernel
theorem dX7_init_168 : decode cX7_init 168 = .ok (.aload_n 0, 1) := by decide +kernel
theorem dX7_init_169 : decode cX7_init 169 = .ok (.bipush 72, 2) := by decide +kernel
theorem dX7_init_171 : decode cX7_init 171 = .ok (.newarray .int, 2) := by decide +kernel
theorem dX7_init_173 : decode cX7_init 173 = .ok (.putfield 61, 3) := by decide +kernel
theorem dX7_init_176 : decode cX7_init 176 = .ok (.aload_n 0, 1) := by decide +kernel
theorem dX7_init_177 : decode cX7_init 177 = .ok (.sipush 181, 3) := by decide +kernel
theorem dX7_init_180 : decode cX7_init 180 = .ok (.bipush 72, 2) := by decide +kernel
theorem dX7_init_182 : decode cX7_init 182 = .ok (.multianewarray 9 2, 4) := by decide +kernel
theorem dX7_init_186 : decode cX7_init 186 = .ok (.putfield 64, 3) := by decide +kernel
theorem dX7_init_189 : decode cX7_init 189 = .ok (.aload_n 0, 1) := by decide +kernel
theorem dX7_init_190 : decode cX7_init 190 = .ok (.sipush 181, 3) := by decide +kernel
theorem dX7_init_193 : decode cX7_init 193 = .ok (.bipush 72, 2) := by decide +kernel
theorem dX7_init_195 : decode cX7_init 195 = .ok (.multianewarray 9 2, 4) := by decide +kernel
theorem dX7_init_199 : decode cX7_init 199 = .ok (.putfield 67, 3) := by decide +kernel
theorem dX7_init_202 : decode cX7_init 202 = .ok (.aload_n 0, 1) := by decide +kernel
theorem dX7_init_203 : decode cX7_init 203 = .ok (.bipush 72, 2) := by decide +kernel
theorem dX7_init_205 : decode cX7_init 205 = .ok (.newarray .int, 2) := by decide +kernel
theorem dX7_init_207 : decode cX7_init 207 = .ok (.putfield 70, 3) := by decide +kernel
theorem dX7_init_210 : decode cX7_init 210 = .ok (.aload_n 0, 1) := by decide +kernel
theorem dX7_init_211 : decode cX7_init 211 = .ok (.bipush 72, 2) := by decide +kernel
theorem dX7_init_213 : decode cX7_init 213 = .ok (.newarray .int, 2) := by decide +kernel
theorem dX7_init_215 : decode cX7_init 215 = .ok (.putfield 73, 3) := by decide +kernel
theorem dX7_init_218 : decode cX7_init 218 = .ok (.aload_n 0, 1) := by decide +kernel
theorem dX7_init_219 : decode cX7_init 219 = .ok (.sipush 3698, 3) := by decide +kernel
theorem dX7_init_222 : decode cX7_init 222 = .ok (.anewarray 76, 3) := by decide +kernel
theorem dX7_init_225 : decode cX7_init 225 = .ok (.putfield 77, 3) := by decide +kernel
theorem dX7_init_228 : decode cX7_init 228 = .ok (.return_, 1) := by decide +kernel
theorem dX7_in_0 : decode cX7_in 0 = .ok (.iload_n 0, 1) := by decide +kernel
theorem dX7_in_1 : decode cX7_in 1 = .ok (.iload_n 1, 1) := by decide +kernel
theorem dX7_in_2 : decode cX7_in 2 = .ok (.if_icmp .lt 12, 3) := by decide +kernel
theorem dX7_in_5 : decode cX7_in 5 = .ok (.iload_n 0, 1) := by decide +kernel
theorem dX7_in_6 : decode cX7_in 6 = .ok (.iload_n 2, 1) := by decide +kernel
theorem dX7_in_7 : decode cX7_in 7 = .ok (.if_icmp .gt 7, 3) := by decide +kernel
theorem dX7_in_10 : decode cX7_in 10 = .ok (.iconst 1, 1) := by decide +kernel
theorem dX7_in_11 : decode cX7_in 11 = .ok (.goto 4, 3) := by decide +kernel
theorem dX7_in_14 : decode cX7_in 14 = .ok (.iconst 0, 1) := by decide +kernel
theorem dX7_in_15 : decode cX7_in 15 = .ok (.ireturn, 1) := by decide +kernel
theorem dX7_isBook_0 : decode cX7_isBook 0 = .ok (.iload_n 0, 1) := by decide +kernel
theorem dX7_isBook_1 : decode cX7_isBook 1 = .ok (.iconst 0, 1) := by decide +kernel
theorem dX7_isBook_2 : decode cX7_isBook 2 = .ok (.bipush 7, 2) := by decide +kernel
theorem dX7_isBook_4 : decode cX7_isBook 4 = .ok (.invokestatic 80, 3) := by decide +kernel
theorem dX7_isBook_7 : decode cX7_isBook 7 = .ok (.ireturn, 1) := by decide +kernel
theorem dX7_isRight_0 : decode cX7_isRight 0 = .ok (.iload_n 1, 1) := by decide +kernel
theorem dX7_isRight_1 : decode cX7_isRight 1 = .ok (.invokestatic 84, 3) := by decide +kernel
theorem dX7_isRight_4 : decode cX7_isRight 4 = .ok (.ifCond .ne 5, 3) := by decide +kernel
theorem dX7_isRight_7 : decode cX7_isRight 7 = .ok (.iconst 0, 1) := by decide +kernel
theorem dX7_isRight_8 : decode cX7_isRight 8 = .ok (.ireturn, 1) := by decide +kernel
theorem dX7_isRight_9 : decode cX7_isRight 9 = .ok (.iconst 0, 1) := by decide +kernel
theorem dX7_isRight_10 : decode cX7_isRight 10 = .ok (.istore_n 2, 1) := by decide +kernel
theorem dX7_isRight_11 : decode cX7_isRight 11 = .ok (.iconst 0, 1) := by decide +kernel
theorem dX7_isRight_12 : decode cX7_isRight 12 = .ok (.istore_n 3, 1) := by decide +kernel
theorem dX7_isRight_13 : decode cX7_isRight 13 = .ok (.iload_n 3, 1) := by decide +kernel
theorem dX7_isRight_14 : decode cX7_isRight 14 = .ok (.bipush 21, 2) := by decide +kernel
theorem dX7_isRight_16 : decode cX7_isRight 16 = .ok (.if_icmp .ge 20, 3) := by decide +kernel
theorem dX7_isRight_19 : decode cX7_isRight 19 = .ok (.iload_n 2, 1) := by decide +kernel
theorem dX7_isRight_20 : decode cX7_isRight 20 = .ok (.aload_n 0, 1) := by decide +kernel
theorem dX7_isRight_21 : decode cX7_isRight 21 = .ok (.getfield 11, 3) := by decide +kernel
theorem dX7_isRight_24 : decode cX7_isRight 24 = .ok (.iload_n 1, 1) := by decide +kernel
theorem dX7_isRight_25 : decode cX7_isRight 25 = .ok (.aaload, 1) := by decide +kernel
theorem dX7_isRight_26 : decode cX7_isRight 26 = .ok (.iload_n 3, 1) := by decide +kernel
theorem dX7_isRight_27 : decode cX7_isRight 27 = .ok (.iaload, 1) := by decide +kernel
theorem dX7_isRight_28 : decode cX7_isRight 28 = .ok (.iadd, 1) := by decide +kernel
theorem dX7_isRight_29 : decode cX7_isRight 29 = .ok (.istore_n 2, 1) := by decide +kernel
theorem dX7_isRight_30 : decode cX7_isRight 30 = .ok (.iinc 3 1, 3) := by decide +kernel
theorem dX7_isRight_33 : decode cX7_isRight 33 = .ok (.goto (-20), 3) := by decide +kernel
theorem dX7_isRight_36 : decode cX7_isRight 36 = .ok (.iload_n 2, 1) := by decide +kernel
theorem dX7_isRight_37 : decode cX7_isRight 37 = .ok (.sipush 1000, 3) := by decide +kernel
theorem dX7_isRight_40 : decode cX7_isRight 40 = .ok (.if_icmp .ne 7, 3) := by decide +kernel
theorem dX7_isRight_43 : decode cX7_isRight 43 = .ok (.iconst 1, 1) := by decide +kernel
theorem dX7_isRight_44 : decode cX7_isRight 44 = .ok (.goto 4, 3) := by decide +kernel
theorem dX7_isRight_47 : decode cX7_isRight 47 = .ok (.iconst 0, 1) := by decide +kernel
theorem dX7_isRight_48 : decode cX7_isRight 48 = .ok (.ireturn, 1) := by decide +kernel
theorem dX7_set_0 : decode cX7_set 0 = .ok (.iload_n 1, 1) := by decide +kernel
theorem dX7_set_1 : decode cX7_set 1 = .ok (.invokestatic 84, 3) := by decide +kernel
theorem dX7_set_4 : decode cX7_set 4 = .ok (.ifCond .eq 24, 3) := by decide +kernel
theorem dX7_set_7 : decode cX7_set 7 = .ok (.iload_n 2, 1) := by decide +kernel
theorem dX7_set_8 : decode cX7_set 8 = .ok (.iconst 0, 1) := by decide +kernel
theorem dX7_set_9 : decode cX7_set 9 = .ok (.bipush 20, 2) := by decide +kernel
theorem dX7_set_11 : decode cX7_set 11 = .ok (.invokestatic 80, 3) := by decide +kernel
theorem dX7_set_14 : decode cX7_set 14 = .ok (.ifCond .eq 14, 3) := by decide +kernel
theorem dX7_set_17 : decode cX7_set 17 = .ok (.iload_n 3, 1) := by decide +kernel
theorem dX7_set_18 : decode cX7_set 18 = .ok (.iconst 0, 1) := by decide +kernel
theorem dX7_set_19 : decode cX7_set 19 = .ok (.sipush 1000, 3) := by decide +kernel
theorem dX7_set_22 : decode cX7_set 22 = .ok (.invokestatic 80, 3) := by decide +kernel
theorem dX7_set_25 : decode cX7_set 25 = .ok (.ifCond .ne 5, 3) := by decide +kernel
theorem dX7_set_28 : decode cX7_set 28 = .ok (.iconst 0, 1) := by decide +kernel
theorem dX7_set_29 : decode cX7_set 29 = .ok (.ireturn, 1) := by decide +kernel
theorem dX7_set_30 : decode cX7_set 30 = .ok (.aload_n 0, 1) := by decide +kernel
theorem dX7_set_31 : decode cX7_set 31 = .ok (.getfield 11, 3) := by decide +kernel
theorem dX7_set_34 : decode cX7_set 34 = .ok (.iload_n 1, 1) := by decide +kernel
theorem dX7_set_35 : decode cX7_set 35 = .ok (.aaload, 1) := by decide +kernel
theorem dX7_set_36 : decode cX7_set 36 = .ok (.iload_n 2, 1) := by decide +kernel
theorem dX7_set_37 : decode cX7_set 37 = .ok (.iload_n 3, 1) := by decide +kernel
theorem dX7_set_38 : decode cX7_set 38 = .ok (.iastore, 1) := by decide +kernel
theorem dX7_set_39 : decode cX7_set 39 = .ok (.iconst 1, 1) := by decide +kernel
theorem dX7_set_40 : decode cX7_set 40 = .ok (.ireturn, 1) := by decide +kernel
theorem dX7_parts_0 : decode cX7_parts 0 = .ok (.iload_n 1, 1) := by decide +kernel
theorem dX7_parts_1 : decode cX7_parts 1 = .ok (.invokestatic 84, 3) := by decide +kernel
theorem dX7_parts_4 : decode cX7_parts 4 = .ok (.ifCond .eq 24, 3) := by decide +kernel
theorem dX7_parts_7 : decode cX7_parts 7 = .ok (.iload_n 2, 1) := by decide +kernel
theorem dX7_parts_8 : decode cX7_parts 8 = .ok (.iconst 0, 1) := by decide +kernel
theorem dX7_parts_9 : decode cX7_parts 9 = .ok (.bipush 20, 2) := by decide +kernel
theorem dX7_parts_11 : decode cX7_parts 11 = .ok (.invokestatic 80, 3) := by decide +kernel
theorem dX7_parts_14 : decode cX7_parts 14 = .ok (.ifCond .eq 14, 3) := by decide +kernel
theorem dX7_parts_17 : decode cX7_parts 17 = .ok (.aload_n 0, 1) := by decide +kernel
theorem dX7_parts_18 : decode cX7_parts 18 = .ok (.getfield 11, 3) := by decide +kernel
theorem dX7_parts_21 : decode cX7_parts 21 = .ok (.iload_n 1, 1) := by decide +kernel
theorem dX7_parts_22 : decode cX7_parts 22 = .ok (.aaload, 1) := by decide +kernel
theorem dX7_parts_23 : decode cX7_parts 23 = .ok (.iload_n 2, 1) := by decide +kernel
theorem dX7_parts_24 : decode cX7_parts 24 = .ok (.iaload, 1) := by decide +kernel
theorem dX7_parts_25 : decode cX7_parts 25 = .ok (.goto 4, 3) := by decide +kernel
theorem dX7_parts_28 : decode cX7_parts 28 = .ok (.iconst (-1), 1) := by decide +kernel
theorem dX7_parts_29 : decode cX7_parts 29 = .ok (.ireturn, 1) := by decide +kernel
theorem dX7_right_0 : decode cX7_right 0 = .ok (.aload_n 0, 1) := by decide +kernel
theorem dX7_right_1 : decode cX7_right 1 = .ok (.iload_n 1, 1) := by decide +kernel
theorem dX7_right_2 : decode cX7_right 2 = .ok (.invokevirtual 88, 3) := by decide +kernel
theorem dX7_right_5 : decode cX7_right 5 = .ok (.ireturn, 1) := by decide +kernel
theorem dX7_mean_0 : decode cX7_mean 0 = .ok (.iconst 0, 1) := by decide +kernel
theorem dX7_mean_1 : decode cX7_mean 1 = .ok (.istore_n 2, 1) := by decide +kernel
theorem dX7_mean_2 : decode cX7_mean 2 = .ok (.iconst 0, 1) := by decide +kernel
theorem dX7_mean_3 : decode cX7_mean 3 = .ok (.istore_n 3, 1) := by decide +kernel
theorem dX7_mean_4 : decode cX7_mean 4 = .ok (.iload_n 3, 1) := by decide +kernel
theorem dX7_mean_5 : decode cX7_mean 5 = .ok (.bipush 21, 2) := by decide +kernel
theorem dX7_mean_7 : decode cX7_mean 7 = .ok (.if_icmp .ge 22, 3) := by decide +kernel
theorem dX7_mean_10 : decode cX7_mean 10 = .ok (.iload_n 2, 1) := by decide +kernel
theorem dX7_mean_11 : decode cX7_mean 11 = .ok (.iload_n 3, 1) := by decide +kernel
theorem dX7_mean_12 : decode cX7_mean 12 = .ok (.aload_n 0, 1) := by decide +kernel
theorem dX7_mean_13 : decode cX7_mean 13 = .ok (.getfield 11, 3) := by decide +kernel
theorem dX7_mean_16 : decode cX7_mean 16 = .ok (.iload_n 1, 1) := by decide +kernel
theorem dX7_mean_17 : decode cX7_mean 17 = .ok (.aaload, 1) := by decide +kernel
theorem dX7_mean_18 : decode cX7_mean 18 = .ok (.iload_n 3, 1) := by decide +kernel
theorem dX7_mean_19 : decode cX7_mean 19 = .ok (.iaload, 1) := by decide +kernel
theorem dX7_mean_20 : decode cX7_mean 20 = .ok (.imul, 1) := by decide +kernel
theorem dX7_mean_21 : decode cX7_mean 21 = .ok (.iadd, 1) := by decide +kernel
theorem dX7_mean_22 : decode cX7_mean 22 = .ok (.istore_n 2, 1) := by decide +kernel
theorem dX7_mean_23 : decode cX7_mean 23 = .ok (.iinc 3 1, 3) := by decide +kernel
theorem dX7_mean_26 : decode cX7_mean 26 = .ok (.goto (-22), 3) := by decide +kernel
theorem dX7_mean_29 : decode cX7_mean 29 = .ok (.iload_n 2, 1) := by decide +kernel
theorem dX7_mean_30 : decode cX7_mean 30 = .ok (.ireturn, 1) := by decide +kernel
theorem dX7_stop_0 : decode cX7_stop 0 = .ok (.iconst 0, 1) := by decide +kernel
theorem dX7_stop_1 : decode cX7_stop 1 = .ok (.istore_n 3, 1) := by decide +kernel
theorem dX7_stop_2 : decode cX7_stop 2 = .ok (.iload_n 2, 1) := by decide +kernel
theorem dX7_stop_3 : decode cX7_stop 3 = .ok (.iconst 1, 1) := by decide +kernel
theorem dX7_stop_4 : decode cX7_stop 4 = .ok (.iadd, 1) := by decide +kernel
theorem dX7_stop_5 : decode cX7_stop 5 = .ok (.istore 4, 2) := by decide +kernel
theorem dX7_stop_7 : decode cX7_stop 7 = .ok (.iload 4, 2) := by decide +kernel
theorem dX7_stop_9 : decode cX7_stop 9 = .ok (.bipush 21, 2) := by decide +kernel
theorem dX7_stop_11 : decode cX7_stop 11 = .ok (.if_icmp .ge 26, 3) := by decide +kernel
theorem dX7_stop_14 : decode cX7_stop 14 = .ok (.iload_n 3, 1) := by decide +kernel
theorem dX7_stop_15 : decode cX7_stop 15 = .ok (.iload 4, 2) := by decide +kernel
theorem dX7_stop_17 : decode cX7_stop 17 = .ok (.iload_n 2, 1) := by decide +kernel
theorem dX7_stop_18 : decode cX7_stop 18 = .ok (.isub, 1) := by decide +kernel
theorem dX7_stop_19 : decode cX7_stop 19 = .ok (.aload_n 0, 1) := by decide +kernel
theorem dX7_stop_20 : decode cX7_stop 20 = .ok (.getfield 11, 3) := by decide +kernel
theorem dX7_stop_23 : decode cX7_stop 23 = .ok (.iload_n 1, 1) := by decide +kernel
theorem dX7_stop_24 : decode cX7_stop 24 = .ok (.aaload, 1) := by decide +kernel
theorem dX7_stop_25 : decode cX7_stop 25 = .ok (.iload 4, 2) := by decide +kernel
theorem dX7_stop_27 : decode cX7_stop 27 = .ok (.iaload, 1) := by decide +kernel
theorem dX7_stop_28 : decode cX7_stop 28 = .ok (.imul, 1) := by decide +kernel
theorem dX7_stop_29 : decode cX7_stop 29 = .ok (.iadd, 1) := by decide +kernel
theorem dX7_stop_30 : decode cX7_stop 30 = .ok (.istore_n 3, 1) := by decide +kernel
theorem dX7_stop_31 : decode cX7_stop 31 = .ok (.iinc 4 1, 3) := by decide +kernel
theorem dX7_stop_34 : decode cX7_stop 34 = .ok (.goto (-27), 3) := by decide +kernel
theorem dX7_stop_37 : decode cX7_stop 37 = .ok (.iload_n 3, 1) := by decide +kernel
theorem dX7_stop_38 : decode cX7_stop 38 = .ok (.ireturn, 1) := by decide +kernel
theorem dX7_told_0 : decode cX7_told 0 = .ok (.aload_n 0, 1) := by decide +kernel
theorem dX7_told_1 : decode cX7_told 1 = .ok (.iload_n 1, 1) := by decide +kernel
theorem dX7_told_2 : decode cX7_told 2 = .ok (.invokevirtual 88, 3) := by decide +kernel
theorem dX7_told_5 : decode cX7_told 5 = .ok (.ifCond .ne 5, 3) := by decide +kernel
theorem dX7_told_8 : decode cX7_told 8 = .ok (.iconst (-1), 1) := by decide +kernel
theorem dX7_told_9 : decode cX7_told 9 = .ok (.ireturn, 1) := by decide +kernel
theorem dX7_told_10 : decode cX7_told 10 = .ok (.iload_n 2, 1) := by decide +kernel
theorem dX7_told_11 : decode cX7_told 11 = .ok (.ifCond .ne 9, 3) := by decide +kernel
theorem dX7_told_14 : decode cX7_told 14 = .ok (.aload_n 0, 1) := by decide +kernel
theorem dX7_told_15 : decode cX7_told 15 = .ok (.iload_n 1, 1) := by decide +kernel
theorem dX7_told_16 : decode cX7_told 16 = .ok (.invokevirtual 91, 3) := by decide +kernel
theorem dX7_told_19 : decode cX7_told 19 = .ok (.ireturn, 1) := by decide +kernel
theorem dX7_told_20 : decode cX7_told 20 = .ok (.iload_n 2, 1) := by decide +kernel
theorem dX7_told_21 : decode cX7_told 21 = .ok (.iconst 2, 1) := by decide +kernel
theorem dX7_told_22 : decode cX7_told 22 = .ok (.if_icmp .ne 24, 3) := by decide +kernel
theorem dX7_told_25 : decode cX7_told 25 = .ok (.iload_n 3, 1) := by decide +kernel
theorem dX7_told_26 : decode cX7_told 26 = .ok (.iconst 0, 1) := by decide +kernel
theorem dX7_told_27 : decode cX7_told 27 = .ok (.bipush 20, 2) := by decide +kernel
theorem dX7_told_29 : decode cX7_told 29 = .ok (.invokestatic 80, 3) := by decide +kernel
theorem dX7_told_32 : decode cX7_told 32 = .ok (.ifCond .eq 12, 3) := by decide +kernel
end
section
theorem dX7_told_35 : decode cX7_told 35 = .ok (.aload_n 0, 1) := by decide +kernel
theorem dX7_told_36 : decode cX7_told 36 = .ok (.iload_n 1, 1) := by decide +kernel
theorem dX7_told_37 : decode cX7_told 37 = .ok (.iload_n 3, 1) := by decide +kernel
theorem dX7_told_38 : decode cX7_told 38 = .ok (.invokevirtual 95, 3) := by decide +kernel
theorem dX7_told_41 : decode cX7_told 41 = .ok (.goto 4, 3) := by decide +kernel
theorem dX7_told_44 : decode cX7_told 44 = .ok (.iconst (-1), 1) := by decide +kernel
theorem dX7_told_45 : decode cX7_told 45 = .ok (.ireturn, 1) := by decide +kernel
theorem dX7_told_46 : decode cX7_told 46 = .ok (.iload_n 2, 1) := by decide +kernel
theorem dX7_told_47 : decode cX7_told 47 = .ok (.iconst 1, 1) := by decide +kernel
theorem dX7_told_48 : decode cX7_told 48 = .ok (.if_icmp .eq 5, 3) := by decide +kernel
theorem dX7_told_51 : decode cX7_told 51 = .ok (.iconst (-1), 1) := by decide +kernel
theorem dX7_told_52 : decode cX7_told 52 = .ok (.ireturn, 1) := by decide +kernel
theorem dX7_told_53 : decode cX7_told 53 = .ok (.iconst 0, 1) := by decide +kernel
theorem dX7_told_54 : decode cX7_told 54 = .ok (.istore 4, 2) := by decide +kernel
theorem dX7_told_56 : decode cX7_told 56 = .ok (.iconst 0, 1) := by decide +kernel
theorem dX7_told_57 : decode cX7_told 57 = .ok (.istore 5, 2) := by decide +kernel
theorem dX7_told_59 : decode cX7_told 59 = .ok (.iload 5, 2) := by decide +kernel
theorem dX7_told_61 : decode cX7_told 61 = .ok (.bipush 21, 2) := by decide +kernel
theorem dX7_told_63 : decode cX7_told 63 = .ok (.if_icmp .ge 29, 3) := by decide +kernel
theorem dX7_told_66 : decode cX7_told 66 = .ok (.iload 4, 2) := by decide +kernel
theorem dX7_told_68 : decode cX7_told 68 = .ok (.iload 5, 2) := by decide +kernel
theorem dX7_told_70 : decode cX7_told 70 = .ok (.iload 5, 2) := by decide +kernel
theorem dX7_told_72 : decode cX7_told 72 = .ok (.imul, 1) := by decide +kernel
theorem dX7_told_73 : decode cX7_told 73 = .ok (.aload_n 0, 1) := by decide +kernel
theorem dX7_told_74 : decode cX7_told 74 = .ok (.getfield 11, 3) := by decide +kernel
theorem dX7_told_77 : decode cX7_told 77 = .ok (.iload_n 1, 1) := by decide +kernel
theorem dX7_told_78 : decode cX7_told 78 = .ok (.aaload, 1) := by decide +kernel
theorem dX7_told_79 : decode cX7_told 79 = .ok (.iload 5, 2) := by decide +kernel
theorem dX7_told_81 : decode cX7_told 81 = .ok (.iaload, 1) := by decide +kernel
theorem dX7_told_82 : decode cX7_told 82 = .ok (.imul, 1) := by decide +kernel
theorem dX7_told_83 : decode cX7_told 83 = .ok (.iadd, 1) := by decide +kernel
theorem dX7_told_84 : decode cX7_told 84 = .ok (.istore 4, 2) := by decide +kernel
theorem dX7_told_86 : decode cX7_told 86 = .ok (.iinc 5 1, 3) := by decide +kernel
theorem dX7_told_89 : decode cX7_told 89 = .ok (.goto (-30), 3) := by decide +kernel
theorem dX7_told_92 : decode cX7_told 92 = .ok (.sipush 1000, 3) := by decide +kernel
theorem dX7_told_95 : decode cX7_told 95 = .ok (.iload 4, 2) := by decide +kernel
theorem dX7_told_97 : decode cX7_told 97 = .ok (.imul, 1) := by decide +kernel
theorem dX7_told_98 : decode cX7_told 98 = .ok (.aload_n 0, 1) := by decide +kernel
theorem dX7_told_99 : decode cX7_told 99 = .ok (.iload_n 1, 1) := by decide +kernel
theorem dX7_told_100 : decode cX7_told 100 = .ok (.invokevirtual 91, 3) := by decide +kernel
theorem dX7_told_103 : decode cX7_told 103 = .ok (.aload_n 0, 1) := by decide +kernel
theorem dX7_told_104 : decode cX7_told 104 = .ok (.iload_n 1, 1) := by decide +kernel
theorem dX7_told_105 : decode cX7_told 105 = .ok (.invokevirtual 91, 3) := by decide +kernel
theorem dX7_told_108 : decode cX7_told 108 = .ok (.imul, 1) := by decide +kernel
theorem dX7_told_109 : decode cX7_told 109 = .ok (.isub, 1) := by decide +kernel
theorem dX7_told_110 : decode cX7_told 110 = .ok (.ireturn, 1) := by decide +kernel
theorem dX7_becomes_0 : decode cX7_becomes 0 = .ok (.iconst 0, 1) := by decide +kernel
theorem dX7_becomes_1 : decode cX7_becomes 1 = .ok (.istore_n 2, 1) := by decide +kernel
theorem dX7_becomes_2 : decode cX7_becomes 2 = .ok (.iload_n 2, 1) := by decide +kernel
theorem dX7_becomes_3 : decode cX7_becomes 3 = .ok (.bipush 21, 2) := by decide +kernel
theorem dX7_becomes_5 : decode cX7_becomes 5 = .ok (.if_icmp .ge 23, 3) := by decide +kernel
theorem dX7_becomes_8 : decode cX7_becomes 8 = .ok (.aload_n 0, 1) := by decide +kernel
theorem dX7_becomes_9 : decode cX7_becomes 9 = .ok (.getfield 11, 3) := by decide +kernel
theorem dX7_becomes_12 : decode cX7_becomes 12 = .ok (.iload_n 1, 1) := by decide +kernel
theorem dX7_becomes_13 : decode cX7_becomes 13 = .ok (.aaload, 1) := by decide +kernel
theorem dX7_becomes_14 : decode cX7_becomes 14 = .ok (.iload_n 2, 1) := by decide +kernel
theorem dX7_becomes_15 : decode cX7_becomes 15 = .ok (.aload_n 0, 1) := by decide +kernel
theorem dX7_becomes_16 : decode cX7_becomes 16 = .ok (.getfield 24, 3) := by decide +kernel
theorem dX7_becomes_19 : decode cX7_becomes 19 = .ok (.iload_n 2, 1) := by decide +kernel
theorem dX7_becomes_20 : decode cX7_becomes 20 = .ok (.iaload, 1) := by decide +kernel
theorem dX7_becomes_21 : decode cX7_becomes 21 = .ok (.iastore, 1) := by decide +kernel
theorem dX7_becomes_22 : decode cX7_becomes 22 = .ok (.iinc 2 1, 3) := by decide +kernel
theorem dX7_becomes_25 : decode cX7_becomes 25 = .ok (.goto (-23), 3) := by decide +kernel
theorem dX7_becomes_28 : decode cX7_becomes 28 = .ok (.iconst 1, 1) := by decide +kernel
theorem dX7_becomes_29 : decode cX7_becomes 29 = .ok (.ireturn, 1) := by decide +kernel
theorem dX7_layer_0 : decode cX7_layer 0 = .ok (.aload_n 0, 1) := by decide +kernel
theorem dX7_layer_1 : decode cX7_layer 1 = .ok (.iload_n 1, 1) := by decide +kernel
theorem dX7_layer_2 : decode cX7_layer 2 = .ok (.invokevirtual 88, 3) := by decide +kernel
theorem dX7_layer_5 : decode cX7_layer 5 = .ok (.ifCond .eq 31, 3) := by decide +kernel
theorem dX7_layer_8 : decode cX7_layer 8 = .ok (.iload 5, 2) := by decide +kernel
theorem dX7_layer_10 : decode cX7_layer 10 = .ok (.invokestatic 84, 3) := by decide +kernel
theorem dX7_layer_13 : decode cX7_layer 13 = .ok (.ifCond .eq 23, 3) := by decide +kernel
theorem dX7_layer_16 : decode cX7_layer 16 = .ok (.iload_n 2, 1) := by decide +kernel
theorem dX7_layer_17 : decode cX7_layer 17 = .ok (.iconst 0, 1) := by decide +kernel
theorem dX7_layer_18 : decode cX7_layer 18 = .ok (.bipush 20, 2) := by decide +kernel
theorem dX7_layer_20 : decode cX7_layer 20 = .ok (.invokestatic 80, 3) := by decide +kernel
theorem dX7_layer_23 : decode cX7_layer 23 = .ok (.ifCond .eq 13, 3) := by decide +kernel
theorem dX7_layer_26 : decode cX7_layer 26 = .ok (.iload_n 3, 1) := by decide +kernel
theorem dX7_layer_27 : decode cX7_layer 27 = .ok (.iload_n 2, 1) := by decide +kernel
theorem dX7_layer_28 : decode cX7_layer 28 = .ok (.bipush 20, 2) := by decide +kernel
theorem dX7_layer_30 : decode cX7_layer 30 = .ok (.invokestatic 80, 3) := by decide +kernel
theorem dX7_layer_33 : decode cX7_layer 33 = .ok (.ifCond .ne 5, 3) := by decide +kernel
theorem dX7_layer_36 : decode cX7_layer 36 = .ok (.iconst 0, 1) := by decide +kernel
theorem dX7_layer_37 : decode cX7_layer 37 = .ok (.ireturn, 1) := by decide +kernel
theorem dX7_layer_38 : decode cX7_layer 38 = .ok (.iconst 0, 1) := by decide +kernel
theorem dX7_layer_39 : decode cX7_layer 39 = .ok (.istore 6, 2) := by decide +kernel
theorem dX7_layer_41 : decode cX7_layer 41 = .ok (.iload 6, 2) := by decide +kernel
theorem dX7_layer_43 : decode cX7_layer 43 = .ok (.bipush 21, 2) := by decide +kernel
theorem dX7_layer_45 : decode cX7_layer 45 = .ok (.if_icmp .ge 17, 3) := by decide +kernel
theorem dX7_layer_48 : decode cX7_layer 48 = .ok (.aload_n 0, 1) := by decide +kernel
theorem dX7_layer_49 : decode cX7_layer 49 = .ok (.getfield 24, 3) := by decide +kernel
theorem dX7_layer_52 : decode cX7_layer 52 = .ok (.iload 6, 2) := by decide +kernel
theorem dX7_layer_54 : decode cX7_layer 54 = .ok (.iconst 0, 1) := by decide +kernel
theorem dX7_layer_55 : decode cX7_layer 55 = .ok (.iastore, 1) := by decide +kernel
theorem dX7_layer_56 : decode cX7_layer 56 = .ok (.iinc 6 1, 3) := by decide +kernel
theorem dX7_layer_59 : decode cX7_layer 59 = .ok (.goto (-18), 3) := by decide +kernel
theorem dX7_layer_62 : decode cX7_layer 62 = .ok (.iconst 0, 1) := by decide +kernel
theorem dX7_layer_63 : decode cX7_layer 63 = .ok (.istore 6, 2) := by decide +kernel
theorem dX7_layer_65 : decode cX7_layer 65 = .ok (.iload 6, 2) := by decide +kernel
theorem dX7_layer_67 : decode cX7_layer 67 = .ok (.bipush 21, 2) := by decide +kernel
theorem dX7_layer_69 : decode cX7_layer 69 = .ok (.if_icmp .ge 57, 3) := by decide +kernel
theorem dX7_layer_72 : decode cX7_layer 72 = .ok (.iload_n 3, 1) := by decide +kernel
theorem dX7_layer_73 : decode cX7_layer 73 = .ok (.iload_n 2, 1) := by decide +kernel
theorem dX7_layer_74 : decode cX7_layer 74 = .ok (.isub, 1) := by decide +kernel
theorem dX7_layer_75 : decode cX7_layer 75 = .ok (.iconst 0, 1) := by decide +kernel
theorem dX7_layer_76 : decode cX7_layer 76 = .ok (.iload 6, 2) := by decide +kernel
theorem dX7_layer_78 : decode cX7_layer 78 = .ok (.iload_n 2, 1) := by decide +kernel
theorem dX7_layer_79 : decode cX7_layer 79 = .ok (.isub, 1) := by decide +kernel
theorem dX7_layer_80 : decode cX7_layer 80 = .ok (.invokestatic 99, 3) := by decide +kernel
theorem dX7_layer_83 : decode cX7_layer 83 = .ok (.invokestatic 104, 3) := by decide +kernel
theorem dX7_layer_86 : decode cX7_layer 86 = .ok (.istore 7, 2) := by decide +kernel
theorem dX7_layer_88 : decode cX7_layer 88 = .ok (.aload_n 0, 1) := by decide +kernel
theorem dX7_layer_89 : decode cX7_layer 89 = .ok (.getfield 24, 3) := by decide +kernel
theorem dX7_layer_92 : decode cX7_layer 92 = .ok (.iload 4, 2) := by decide +kernel
theorem dX7_layer_94 : decode cX7_layer 94 = .ok (.ifCond .eq 8, 3) := by decide +kernel
theorem dX7_layer_97 : decode cX7_layer 97 = .ok (.iload 7, 2) := by decide +kernel
theorem dX7_layer_99 : decode cX7_layer 99 = .ok (.goto 8, 3) := by decide +kernel
theorem dX7_layer_102 : decode cX7_layer 102 = .ok (.iload 6, 2) := by decide +kernel
theorem dX7_layer_104 : decode cX7_layer 104 = .ok (.iload 7, 2) := by decide +kernel
theorem dX7_layer_106 : decode cX7_layer 106 = .ok (.isub, 1) := by decide +kernel
theorem dX7_layer_107 : decode cX7_layer 107 = .ok (.dup2, 1) := by decide +kernel
theorem dX7_layer_108 : decode cX7_layer 108 = .ok (.iaload, 1) := by decide +kernel
theorem dX7_layer_109 : decode cX7_layer 109 = .ok (.aload_n 0, 1) := by decide +kernel
theorem dX7_layer_110 : decode cX7_layer 110 = .ok (.getfield 11, 3) := by decide +kernel
theorem dX7_layer_113 : decode cX7_layer 113 = .ok (.iload_n 1, 1) := by decide +kernel
theorem dX7_layer_114 : decode cX7_layer 114 = .ok (.aaload, 1) := by decide +kernel
theorem dX7_layer_115 : decode cX7_layer 115 = .ok (.iload 6, 2) := by decide +kernel
theorem dX7_layer_117 : decode cX7_layer 117 = .ok (.iaload, 1) := by decide +kernel
theorem dX7_layer_118 : decode cX7_layer 118 = .ok (.iadd, 1) := by decide +kernel
theorem dX7_layer_119 : decode cX7_layer 119 = .ok (.iastore, 1) := by decide +kernel
theorem dX7_layer_120 : decode cX7_layer 120 = .ok (.iinc 6 1, 3) := by decide +kernel
theorem dX7_layer_123 : decode cX7_layer 123 = .ok (.goto (-58), 3) := by decide +kernel
theorem dX7_layer_126 : decode cX7_layer 126 = .ok (.aload_n 0, 1) := by decide +kernel
theorem dX7_layer_127 : decode cX7_layer 127 = .ok (.iload 5, 2) := by decide +kernel
theorem dX7_layer_129 : decode cX7_layer 129 = .ok (.invokevirtual 107, 3) := by decide +kernel
theorem dX7_layer_132 : decode cX7_layer 132 = .ok (.ireturn, 1) := by decide +kernel
theorem dX7_part_0 : decode cX7_part 0 = .ok (.aload_n 0, 1) := by decide +kernel
theorem dX7_part_1 : decode cX7_part 1 = .ok (.iload_n 1, 1) := by decide +kernel
theorem dX7_part_2 : decode cX7_part 2 = .ok (.invokevirtual 88, 3) := by decide +kernel
theorem dX7_part_5 : decode cX7_part 5 = .ok (.ifCond .eq 21, 3) := by decide +kernel
theorem dX7_part_8 : decode cX7_part 8 = .ok (.iload 4, 2) := by decide +kernel
theorem dX7_part_10 : decode cX7_part 10 = .ok (.invokestatic 84, 3) := by decide +kernel
theorem dX7_part_13 : decode cX7_part 13 = .ok (.ifCond .eq 13, 3) := by decide +kernel
theorem dX7_part_16 : decode cX7_part 16 = .ok (.iload_n 2, 1) := by decide +kernel
theorem dX7_part_17 : decode cX7_part 17 = .ok (.iconst 0, 1) := by decide +kernel
theorem dX7_part_18 : decode cX7_part 18 = .ok (.bipush 100, 2) := by decide +kernel
theorem dX7_part_20 : decode cX7_part 20 = .ok (.invokestatic 80, 3) := by decide +kernel
theorem dX7_part_23 : decode cX7_part 23 = .ok (.ifCond .ne 5, 3) := by decide +kernel
theorem dX7_part_26 : decode cX7_part 26 = .ok (.iconst 0, 1) := by decide +kernel
theorem dX7_part_27 : decode cX7_part 27 = .ok (.ireturn, 1) := by decide +kernel
theorem dX7_part_28 : decode cX7_part 28 = .ok (.iconst 0, 1) := by decide +kernel
theorem dX7_part_29 : decode cX7_part 29 = .ok (.istore 5, 2) := by decide +kernel
theorem dX7_part_31 : decode cX7_part 31 = .ok (.iload 5, 2) := by decide +kernel
theorem dX7_part_33 : decode cX7_part 33 = .ok (.bipush 21, 2) := by decide +kernel
theorem dX7_part_35 : decode cX7_part 35 = .ok (.if_icmp .ge 17, 3) := by decide +kernel
theorem dX7_part_38 : decode cX7_part 38 = .ok (.aload_n 0, 1) := by decide +kernel
theorem dX7_part_39 : decode cX7_part 39 = .ok (.getfield 24, 3) := by decide +kernel
theorem dX7_part_42 : decode cX7_part 42 = .ok (.iload 5, 2) := by decide +kernel
theorem dX7_part_44 : decode cX7_part 44 = .ok (.iconst 0, 1) := by decide +kernel
theorem dX7_part_45 : decode cX7_part 45 = .ok (.iastore, 1) := by decide +kernel
theorem dX7_part_46 : decode cX7_part 46 = .ok (.iinc 5 1, 3) := by decide +kernel
theorem dX7_part_49 : decode cX7_part 49 = .ok (.goto (-18), 3) := by decide +kernel
theorem dX7_part_52 : decode cX7_part 52 = .ok (.iconst 0, 1) := by decide +kernel
theorem dX7_part_53 : decode cX7_part 53 = .ok (.istore 5, 2) := by decide +kernel
theorem dX7_part_55 : decode cX7_part 55 = .ok (.iload 5, 2) := by decide +kernel
theorem dX7_part_57 : decode cX7_part 57 = .ok (.bipush 21, 2) := by decide +kernel
theorem dX7_part_59 : decode cX7_part 59 = .ok (.if_icmp .ge 49, 3) := by decide +kernel
theorem dX7_part_62 : decode cX7_part 62 = .ok (.iload 5, 2) := by decide +kernel
theorem dX7_part_64 : decode cX7_part 64 = .ok (.iload_n 2, 1) := by decide +kernel
theorem dX7_part_65 : decode cX7_part 65 = .ok (.imul, 1) := by decide +kernel
theorem dX7_part_66 : decode cX7_part 66 = .ok (.bipush 100, 2) := by decide +kernel
theorem dX7_part_68 : decode cX7_part 68 = .ok (.idiv, 1) := by decide +kernel
theorem dX7_part_69 : decode cX7_part 69 = .ok (.istore 6, 2) := by decide +kernel
theorem dX7_part_71 : decode cX7_part 71 = .ok (.aload_n 0, 1) := by decide +kernel
theorem dX7_part_72 : decode cX7_part 72 = .ok (.getfield 24, 3) := by decide +kernel
theorem dX7_part_75 : decode cX7_part 75 = .ok (.iload_n 3, 1) := by decide +kernel
theorem dX7_part_76 : decode cX7_part 76 = .ok (.ifCond .eq 11, 3) := by decide +kernel
theorem dX7_part_79 : decode cX7_part 79 = .ok (.iload 5, 2) := by decide +kernel
theorem dX7_part_81 : decode cX7_part 81 = .ok (.iload 6, 2) := by decide +kernel
theorem dX7_part_83 : decode cX7_part 83 = .ok (.isub, 1) := by decide +kernel
theorem dX7_part_84 : decode cX7_part 84 = .ok (.goto 5, 3) := by decide +kernel
theorem dX7_part_87 : decode cX7_part 87 = .ok (.iload 6, 2) := by decide +kernel
theorem dX7_part_89 : decode cX7_part 89 = .ok (.dup2, 1) := by decide +kernel
theorem dX7_part_90 : decode cX7_part 90 = .ok (.iaload, 1) := by decide +kernel
theorem dX7_part_91 : decode cX7_part 91 = .ok (.aload_n 0, 1) := by decide +kernel
theorem dX7_part_92 : decode cX7_part 92 = .ok (.getfield 11, 3) := by decide +kernel
theorem dX7_part_95 : decode cX7_part 95 = .ok (.iload_n 1, 1) := by decide +kernel
theorem dX7_part_96 : decode cX7_part 96 = .ok (.aaload, 1) := by decide +kernel
theorem dX7_part_97 : decode cX7_part 97 = .ok (.iload 5, 2) := by decide +kernel
theorem dX7_part_99 : decode cX7_part 99 = .ok (.iaload, 1) := by decide +kernel
theorem dX7_part_100 : decode cX7_part 100 = .ok (.iadd, 1) := by decide +kernel
theorem dX7_part_101 : decode cX7_part 101 = .ok (.iastore, 1) := by decide +kernel
theorem dX7_part_102 : decode cX7_part 102 = .ok (.iinc 5 1, 3) := by decide +kernel
theorem dX7_part_105 : decode cX7_part 105 = .ok (.goto (-50), 3) := by decide +kernel
theorem dX7_part_108 : decode cX7_part 108 = .ok (.aload_n 0, 1) := by decide +kernel
theorem dX7_part_109 : decode cX7_part 109 = .ok (.iload 4, 2) := by decide +kernel
theorem dX7_part_111 : decode cX7_part 111 = .ok (.invokevirtual 107, 3) := by decide +kernel
theorem dX7_part_114 : decode cX7_part 114 = .ok (.ireturn, 1) := by decide +kernel
theorem dX7_lighter_0 : decode cX7_lighter 0 = .ok (.aload_n 0, 1) := by decide +kernel
theorem dX7_lighter_1 : decode cX7_lighter 1 = .ok (.iload_n 1, 1) := by decide +kernel
theorem dX7_lighter_2 : decode cX7_lighter 2 = .ok (.invokevirtual 88, 3) := by decide +kernel
theorem dX7_lighter_5 : decode cX7_lighter 5 = .ok (.ifCond .eq 11, 3) := by decide +kernel
theorem dX7_lighter_8 : decode cX7_lighter 8 = .ok (.aload_n 0, 1) := by decide +kernel
theorem dX7_lighter_9 : decode cX7_lighter 9 = .ok (.iload_n 2, 1) := by decide +kernel
theorem dX7_lighter_10 : decode cX7_lighter 10 = .ok (.invokevirtual 88, 3) := by decide +kernel
theorem dX7_lighter_13 : decode cX7_lighter 13 = .ok (.ifCond .ne 5, 3) := by decide +kernel
theorem dX7_lighter_16 : decode cX7_lighter 16 = .ok (.iconst 0, 1) := by decide +kernel
theorem dX7_lighter_17 : decode cX7_lighter 17 = .ok (.ireturn, 1) := by decide +kernel
theorem dX7_lighter_18 : decode cX7_lighter 18 = .ok (.iconst 0, 1) := by decide +kernel
theorem dX7_lighter_19 : decode cX7_lighter 19 = .ok (.istore_n 3, 1) := by decide +kernel
theorem dX7_lighter_20 : decode cX7_lighter 20 = .ok (.iload_n 3, 1) := by decide +kernel
theorem dX7_lighter_21 : decode cX7_lighter 21 = .ok (.bipush 21, 2) := by decide +kernel
theorem dX7_lighter_23 : decode cX7_lighter 23 = .ok (.if_icmp .ge 26, 3) := by decide +kernel
theorem dX7_lighter_26 : decode cX7_lighter 26 = .ok (.aload_n 0, 1) := by decide +kernel
theorem dX7_lighter_27 : decode cX7_lighter 27 = .ok (.iload_n 1, 1) := by decide +kernel
theorem dX7_lighter_28 : decode cX7_lighter 28 = .ok (.iload_n 3, 1) := by decide +kernel
theorem dX7_lighter_29 : decode cX7_lighter 29 = .ok (.invokevirtual 95, 3) := by decide +kernel
theorem dX7_lighter_32 : decode cX7_lighter 32 = .ok (.aload_n 0, 1) := by decide +kernel
theorem dX7_lighter_33 : decode cX7_lighter 33 = .ok (.iload_n 2, 1) := by decide +kernel
theorem dX7_lighter_34 : decode cX7_lighter 34 = .ok (.iload_n 3, 1) := by decide +kernel
theorem dX7_lighter_35 : decode cX7_lighter 35 = .ok (.invokevirtual 95, 3) := by decide +kernel
theorem dX7_lighter_38 : decode cX7_lighter 38 = .ok (.if_icmp .le 5, 3) := by decide +kernel
theorem dX7_lighter_41 : decode cX7_lighter 41 = .ok (.iconst 0, 1) := by decide +kernel
theorem dX7_lighter_42 : decode cX7_lighter 42 = .ok (.ireturn, 1) := by decide +kernel
theorem dX7_lighter_43 : decode cX7_lighter 43 = .ok (.iinc 3 1, 3) := by decide +kernel
theorem dX7_lighter_46 : decode cX7_lighter 46 = .ok (.goto (-26), 3) := by decide +kernel
theorem dX7_lighter_49 : decode cX7_lighter 49 = .ok (.iconst 1, 1) := by decide +kernel
theorem dX7_lighter_50 : decode cX7_lighter 50 = .ok (.ireturn, 1) := by decide +kernel
theorem dX7_zero_0 : decode cX7_zero 0 = .ok (.iconst 0, 1) := by decide +kernel
theorem dX7_zero_1 : decode cX7_zero 1 = .ok (.istore_n 1, 1) := by decide +kernel
theorem dX7_zero_2 : decode cX7_zero 2 = .ok (.iload_n 1, 1) := by decide +kernel
theorem dX7_zero_3 : decode cX7_zero 3 = .ok (.bipush 72, 2) := by decide +kernel
theorem dX7_zero_5 : decode cX7_zero 5 = .ok (.if_icmp .ge 13, 3) := by decide +kernel
theorem dX7_zero_8 : decode cX7_zero 8 = .ok (.aload_n 0, 1) := by decide +kernel
theorem dX7_zero_9 : decode cX7_zero 9 = .ok (.iload_n 1, 1) := by decide +kernel
theorem dX7_zero_10 : decode cX7_zero 10 = .ok (.iconst 0, 1) := by decide +kernel
theorem dX7_zero_11 : decode cX7_zero 11 = .ok (.iastore, 1) := by decide +kernel
theorem dX7_zero_12 : decode cX7_zero 12 = .ok (.iinc 1 1, 3) := by decide +kernel
theorem dX7_zero_15 : decode cX7_zero 15 = .ok (.goto (-13), 3) := by decide +kernel
theorem dX7_zero_18 : decode cX7_zero 18 = .ok (.return_, 1) := by decide +kernel
theorem dX7_copy_0 : decode cX7_copy 0 = .ok (.iconst 0, 1) := by decide +kernel
theorem dX7_copy_1 : decode cX7_copy 1 = .ok (.istore_n 2, 1) := by decide +kernel
theorem dX7_copy_2 : decode cX7_copy 2 = .ok (.iload_n 2, 1) := by decide +kernel
theorem dX7_copy_3 : decode cX7_copy 3 = .ok (.bipush 72, 2) := by decide +kernel
theorem dX7_copy_5 : decode cX7_copy 5 = .ok (.if_icmp .ge 15, 3) := by decide +kernel
theorem dX7_copy_8 : decode cX7_copy 8 = .ok (.aload_n 1, 1) := by decide +kernel
theorem dX7_copy_9 : decode cX7_copy 9 = .ok (.iload_n 2, 1) := by decide +kernel
theorem dX7_copy_10 : decode cX7_copy 10 = .ok (.aload_n 0, 1) := by decide +kernel
theorem dX7_copy_11 : decode cX7_copy 11 = .ok (.iload_n 2, 1) := by decide +kernel
theorem dX7_copy_12 : decode cX7_copy 12 = .ok (.iaload, 1) := by decide +kernel
theorem dX7_copy_13 : decode cX7_copy 13 = .ok (.iastore, 1) := by decide +kernel
theorem dX7_copy_14 : decode cX7_copy 14 = .ok (.iinc 2 1, 3) := by decide +kernel
theorem dX7_copy_17 : decode cX7_copy 17 = .ok (.goto (-15), 3) := by decide +kernel
theorem dX7_copy_20 : decode cX7_copy 20 = .ok (.return_, 1) := by decide +kernel
theorem dX7_add_0 : decode cX7_add 0 = .ok (.iload_n 3, 1) := by decide +kernel
theorem dX7_add_1 : decode cX7_add 1 = .ok (.ifCond .ne 4, 3) := by decide +kernel
theorem dX7_add_4 : decode cX7_add 4 = .ok (.return_, 1) := by decide +kernel
theorem dX7_add_5 : decode cX7_add 5 = .ok (.lconst 0, 1) := by decide +kernel
theorem dX7_add_6 : decode cX7_add 6 = .ok (.lstore 5, 2) := by decide +kernel
theorem dX7_add_8 : decode cX7_add 8 = .ok (.iconst 0, 1) := by decide +kernel
theorem dX7_add_9 : decode cX7_add 9 = .ok (.istore 7, 2) := by decide +kernel
theorem dX7_add_11 : decode cX7_add 11 = .ok (.iload 7, 2) := by decide +kernel
theorem dX7_add_13 : decode cX7_add 13 = .ok (.iload 4, 2) := by decide +kernel
theorem dX7_add_15 : decode cX7_add 15 = .ok (.iadd, 1) := by decide +kernel
theorem dX7_add_16 : decode cX7_add 16 = .ok (.aload_n 0, 1) := by decide +kernel
theorem dX7_add_17 : decode cX7_add 17 = .ok (.getfield 27, 3) := by decide +kernel
theorem dX7_add_20 : decode cX7_add 20 = .ok (.if_icmp .ge 53, 3) := by decide +kernel
theorem dX7_add_23 : decode cX7_add 23 = .ok (.aload_n 1, 1) := by decide +kernel
theorem dX7_add_24 : decode cX7_add 24 = .ok (.iload 7, 2) := by decide +kernel
theorem dX7_add_26 : decode cX7_add 26 = .ok (.iload 4, 2) := by decide +kernel
theorem dX7_add_28 : decode cX7_add 28 = .ok (.iadd, 1) := by decide +kernel
theorem dX7_add_29 : decode cX7_add 29 = .ok (.iaload, 1) := by decide +kernel
theorem dX7_add_30 : decode cX7_add 30 = .ok (.i2l, 1) := by decide +kernel
theorem dX7_add_31 : decode cX7_add 31 = .ok (.aload_n 2, 1) := by decide +kernel
theorem dX7_add_32 : decode cX7_add 32 = .ok (.iload 7, 2) := by decide +kernel
theorem dX7_add_34 : decode cX7_add 34 = .ok (.iaload, 1) := by decide +kernel
theorem dX7_add_35 : decode cX7_add 35 = .ok (.i2l, 1) := by decide +kernel
theorem dX7_add_36 : decode cX7_add 36 = .ok (.iload_n 3, 1) := by decide +kernel
theorem dX7_add_37 : decode cX7_add 37 = .ok (.i2l, 1) := by decide +kernel
theorem dX7_add_38 : decode cX7_add 38 = .ok (.lmul, 1) := by decide +kernel
theorem dX7_add_39 : decode cX7_add 39 = .ok (.ladd, 1) := by decide +kernel
theorem dX7_add_40 : decode cX7_add 40 = .ok (.lload 5, 2) := by decide +kernel
theorem dX7_add_42 : decode cX7_add 42 = .ok (.ladd, 1) := by decide +kernel
theorem dX7_add_43 : decode cX7_add 43 = .ok (.lstore 8, 2) := by decide +kernel
theorem dX7_add_45 : decode cX7_add 45 = .ok (.aload_n 1, 1) := by decide +kernel
theorem dX7_add_46 : decode cX7_add 46 = .ok (.iload 7, 2) := by decide +kernel
theorem dX7_add_48 : decode cX7_add 48 = .ok (.iload 4, 2) := by decide +kernel
theorem dX7_add_50 : decode cX7_add 50 = .ok (.iadd, 1) := by decide +kernel
theorem dX7_add_51 : decode cX7_add 51 = .ok (.lload 8, 2) := by decide +kernel
theorem dX7_add_53 : decode cX7_add 53 = .ok (.ldc2_w 110, 3) := by decide +kernel
theorem dX7_add_56 : decode cX7_add 56 = .ok (.lrem, 1) := by decide +kernel
theorem dX7_add_57 : decode cX7_add 57 = .ok (.l2i, 1) := by decide +kernel
theorem dX7_add_58 : decode cX7_add 58 = .ok (.iastore, 1) := by decide +kernel
theorem dX7_add_59 : decode cX7_add 59 = .ok (.lload 8, 2) := by decide +kernel
theorem dX7_add_61 : decode cX7_add 61 = .ok (.ldc2_w 110, 3) := by decide +kernel
theorem dX7_add_64 : decode cX7_add 64 = .ok (.ldiv, 1) := by decide +kernel
theorem dX7_add_65 : decode cX7_add 65 = .ok (.lstore 5, 2) := by decide +kernel
theorem dX7_add_67 : decode cX7_add 67 = .ok (.iinc 7 1, 3) := by decide +kernel
theorem dX7_add_70 : decode cX7_add 70 = .ok (.goto (-59), 3) := by decide +kernel
theorem dX7_add_73 : decode cX7_add 73 = .ok (.return_, 1) := by decide +kernel
theorem dX7_take_0 : decode cX7_take 0 = .ok (.iconst 0, 1) := by decide +kernel
theorem dX7_take_1 : decode cX7_take 1 = .ok (.istore_n 2, 1) := by decide +kernel
theorem dX7_take_2 : decode cX7_take 2 = .ok (.iconst 0, 1) := by decide +kernel
theorem dX7_take_3 : decode cX7_take 3 = .ok (.istore_n 3, 1) := by decide +kernel
theorem dX7_take_4 : decode cX7_take 4 = .ok (.iload_n 3, 1) := by decide +kernel
theorem dX7_take_5 : decode cX7_take 5 = .ok (.bipush 72, 2) := by decide +kernel
theorem dX7_take_7 : decode cX7_take 7 = .ok (.if_icmp .ge 50, 3) := by decide +kernel
theorem dX7_take_10 : decode cX7_take 10 = .ok (.aload_n 0, 1) := by decide +kernel
theorem dX7_take_11 : decode cX7_take 11 = .ok (.iload_n 3, 1) := by decide +kernel
theorem dX7_take_12 : decode cX7_take 12 = .ok (.iaload, 1) := by decide +kernel
theorem dX7_take_13 : decode cX7_take 13 = .ok (.aload_n 1, 1) := by decide +kernel
theorem dX7_take_14 : decode cX7_take 14 = .ok (.iload_n 3, 1) := by decide +kernel
theorem dX7_take_15 : decode cX7_take 15 = .ok (.iaload, 1) := by decide +kernel
theorem dX7_take_16 : decode cX7_take 16 = .ok (.isub, 1) := by decide +kernel
theorem dX7_take_17 : decode cX7_take 17 = .ok (.iload_n 2, 1) := by decide +kernel
theorem dX7_take_18 : decode cX7_take 18 = .ok (.isub, 1) := by decide +kernel
theorem dX7_take_19 : decode cX7_take 19 = .ok (.istore 4, 2) := by decide +kernel
theorem dX7_take_21 : decode cX7_take 21 = .ok (.iload 4, 2) := by decide +kernel
theorem dX7_take_23 : decode cX7_take 23 = .ok (.ifCond .ge 7, 3) := by decide +kernel
theorem dX7_take_26 : decode cX7_take 26 = .ok (.iconst 1, 1) := by decide +kernel
theorem dX7_take_27 : decode cX7_take 27 = .ok (.goto 4, 3) := by decide +kernel
theorem dX7_take_30 : decode cX7_take 30 = .ok (.iconst 0, 1) := by decide +kernel
theorem dX7_take_31 : decode cX7_take 31 = .ok (.istore_n 2, 1) := by decide +kernel
theorem dX7_take_32 : decode cX7_take 32 = .ok (.aload_n 0, 1) := by decide +kernel
theorem dX7_take_33 : decode cX7_take 33 = .ok (.iload_n 3, 1) := by decide +kernel
theorem dX7_take_34 : decode cX7_take 34 = .ok (.iload 4, 2) := by decide +kernel
theorem dX7_take_36 : decode cX7_take 36 = .ok (.ifCond .ge 12, 3) := by decide +kernel
theorem dX7_take_39 : decode cX7_take 39 = .ok (.iload 4, 2) := by decide +kernel
theorem dX7_take_41 : decode cX7_take 41 = .ok (.sipush 1000, 3) := by decide +kernel
theorem dX7_take_44 : decode cX7_take 44 = .ok (.iadd, 1) := by decide +kernel
theorem dX7_take_45 : decode cX7_take 45 = .ok (.goto 5, 3) := by decide +kernel
theorem dX7_take_48 : decode cX7_take 48 = .ok (.iload 4, 2) := by decide +kernel
theorem dX7_take_50 : decode cX7_take 50 = .ok (.iastore, 1) := by decide +kernel
theorem dX7_take_51 : decode cX7_take 51 = .ok (.iinc 3 1, 3) := by decide +kernel
theorem dX7_take_54 : decode cX7_take 54 = .ok (.goto (-50), 3) := by decide +kernel
theorem dX7_take_57 : decode cX7_take 57 = .ok (.return_, 1) := by decide +kernel
theorem dX7_compare_0 : decode cX7_compare 0 = .ok (.bipush 71, 2) := by decide +kernel
theorem dX7_compare_2 : decode cX7_compare 2 = .ok (.istore_n 2, 1) := by decide +kernel
theorem dX7_compare_3 : decode cX7_compare 3 = .ok (.iload_n 2, 1) := by decide +kernel
theorem dX7_compare_4 : decode cX7_compare 4 = .ok (.ifCond .lt 33, 3) := by decide +kernel
theorem dX7_compare_7 : decode cX7_compare 7 = .ok (.aload_n 0, 1) := by decide +kernel
theorem dX7_compare_8 : decode cX7_compare 8 = .ok (.iload_n 2, 1) := by decide +kernel
theorem dX7_compare_9 : decode cX7_compare 9 = .ok (.iaload, 1) := by decide +kernel
theorem dX7_compare_10 : decode cX7_compare 10 = .ok (.aload_n 1, 1) := by decide +kernel
theorem dX7_compare_11 : decode cX7_compare 11 = .ok (.iload_n 2, 1) := by decide +kernel
theorem dX7_compare_12 : decode cX7_compare 12 = .ok (.iaload, 1) := by decide +kernel
theorem dX7_compare_13 : decode cX7_compare 13 = .ok (.if_icmp .eq 18, 3) := by decide +kernel
theorem dX7_compare_16 : decode cX7_compare 16 = .ok (.aload_n 0, 1) := by decide +kernel
theorem dX7_compare_17 : decode cX7_compare 17 = .ok (.iload_n 2, 1) := by decide +kernel
theorem dX7_compare_18 : decode cX7_compare 18 = .ok (.iaload, 1) := by decide +kernel
theorem dX7_compare_19 : decode cX7_compare 19 = .ok (.aload_n 1, 1) := by decide +kernel
theorem dX7_compare_20 : decode cX7_compare 20 = .ok (.iload_n 2, 1) := by decide +kernel
theorem dX7_compare_21 : decode cX7_compare 21 = .ok (.iaload, 1) := by decide +kernel
theorem dX7_compare_22 : decode cX7_compare 22 = .ok (.if_icmp .ge 7, 3) := by decide +kernel
theorem dX7_compare_25 : decode cX7_compare 25 = .ok (.iconst (-1), 1) := by decide +kernel
theorem dX7_compare_26 : decode cX7_compare 26 = .ok (.goto 4, 3) := by decide +kernel
theorem dX7_compare_29 : decode cX7_compare 29 = .ok (.iconst 1, 1) := by decide +kernel
theorem dX7_compare_30 : decode cX7_compare 30 = .ok (.ireturn, 1) := by decide +kernel
theorem dX7_compare_31 : decode cX7_compare 31 = .ok (.iinc 2 (-1), 3) := by decide +kernel
theorem dX7_compare_34 : decode cX7_compare 34 = .ok (.goto (-31), 3) := by decide +kernel
theorem dX7_compare_37 : decode cX7_compare 37 = .ok (.iconst 0, 1) := by decide +kernel
theorem dX7_compare_38 : decode cX7_compare 38 = .ok (.ireturn, 1) := by decide +kernel
theorem dX7_set__0 : decode cX7_set_ 0 = .ok (.aload_n 0, 1) := by decide +kernel
theorem dX7_set__1 : decode cX7_set_ 1 = .ok (.invokestatic 112, 3) := by decide +kernel
theorem dX7_set__4 : decode cX7_set_ 4 = .ok (.iload_n 1, 1) := by decide +kernel
theorem dX7_set__5 : decode cX7_set_ 5 = .ok (.istore_n 3, 1) := by decide +kernel
theorem dX7_set__6 : decode cX7_set_ 6 = .ok (.iload_n 2, 1) := by decide +kernel
theorem dX7_set__7 : decode cX7_set_ 7 = .ok (.istore 4, 2) := by decide +kernel
theorem dX7_set__9 : decode cX7_set_ 9 = .ok (.iload_n 3, 1) := by decide +kernel
theorem dX7_set__10 : decode cX7_set_ 10 = .ok (.ifCond .le 24, 3) := by decide +kernel
theorem dX7_set__13 : decode cX7_set_ 13 = .ok (.aload_n 0, 1) := by decide +kernel
theorem dX7_set__14 : decode cX7_set_ 14 = .ok (.iload 4, 2) := by decide +kernel
theorem dX7_set__16 : decode cX7_set_ 16 = .ok (.iload_n 3, 1) := by decide +kernel
theorem dX7_set__17 : decode cX7_set_ 17 = .ok (.sipush 1000, 3) := by decide +kernel
theorem dX7_set__20 : decode cX7_set_ 20 = .ok (.irem, 1) := by decide +kernel
theorem dX7_set__21 : decode cX7_set_ 21 = .ok (.iastore, 1) := by decide +kernel
theorem dX7_set__22 : decode cX7_set_ 22 = .ok (.iload_n 3, 1) := by decide +kernel
theorem dX7_set__23 : decode cX7_set_ 23 = .ok (.sipush 1000, 3) := by decide +kernel
theorem dX7_set__26 : decode cX7_set_ 26 = .ok (.idiv, 1) := by decide +kernel
theorem dX7_set__27 : decode cX7_set_ 27 = .ok (.istore_n 3, 1) := by decide +kernel
theorem dX7_set__28 : decode cX7_set_ 28 = .ok (.iinc 4 1, 3) := by decide +kernel
theorem dX7_set__31 : decode cX7_set_ 31 = .ok (.goto (-22), 3) := by decide +kernel
theorem dX7_set__34 : decode cX7_set_ 34 = .ok (.return_, 1) := by decide +kernel
theorem dX7_decimal_0 : decode cX7_decimal 0 = .ok (.iload_n 1, 1) := by decide +kernel
theorem dX7_decimal_1 : decode cX7_decimal 1 = .ok (.iconst 1, 1) := by decide +kernel
theorem dX7_decimal_2 : decode cX7_decimal 2 = .ok (.isub, 1) := by decide +kernel
theorem dX7_decimal_3 : decode cX7_decimal 3 = .ok (.iload_n 2, 1) := by decide +kernel
theorem dX7_decimal_4 : decode cX7_decimal 4 = .ok (.iconst 1, 1) := by decide +kernel
theorem dX7_decimal_5 : decode cX7_decimal 5 = .ok (.isub, 1) := by decide +kernel
theorem dX7_decimal_6 : decode cX7_decimal 6 = .ok (.iconst 3, 1) := by decide +kernel
theorem dX7_decimal_7 : decode cX7_decimal 7 = .ok (.idiv, 1) := by decide +kernel
theorem dX7_decimal_8 : decode cX7_decimal 8 = .ok (.isub, 1) := by decide +kernel
theorem dX7_decimal_9 : decode cX7_decimal 9 = .ok (.istore_n 3, 1) := by decide +kernel
theorem dX7_decimal_10 : decode cX7_decimal 10 = .ok (.aload_n 0, 1) := by decide +kernel
theorem dX7_decimal_11 : decode cX7_decimal 11 = .ok (.iload_n 3, 1) := by decide +kernel
theorem dX7_decimal_12 : decode cX7_decimal 12 = .ok (.iaload, 1) := by decide +kernel
theorem dX7_decimal_13 : decode cX7_decimal 13 = .ok (.istore 4, 2) := by decide +kernel
theorem dX7_decimal_15 : decode cX7_decimal 15 = .ok (.iload_n 2, 1) := by decide +kernel
theorem dX7_decimal_16 : decode cX7_decimal 16 = .ok (.iconst 1, 1) := by decide +kernel
theorem dX7_decimal_17 : decode cX7_decimal 17 = .ok (.isub, 1) := by decide +kernel
theorem dX7_decimal_18 : decode cX7_decimal 18 = .ok (.iconst 3, 1) := by decide +kernel
theorem dX7_decimal_19 : decode cX7_decimal 19 = .ok (.irem, 1) := by decide +kernel
theorem dX7_decimal_20 : decode cX7_decimal 20 = .ok (.istore 5, 2) := by decide +kernel
theorem dX7_decimal_22 : decode cX7_decimal 22 = .ok (.iload 5, 2) := by decide +kernel
theorem dX7_decimal_24 : decode cX7_decimal 24 = .ok (.ifCond .ne 11, 3) := by decide +kernel
theorem dX7_decimal_27 : decode cX7_decimal 27 = .ok (.iload 4, 2) := by decide +kernel
theorem dX7_decimal_29 : decode cX7_decimal 29 = .ok (.bipush 100, 2) := by decide +kernel
theorem dX7_decimal_31 : decode cX7_decimal 31 = .ok (.idiv, 1) := by decide +kernel
theorem dX7_decimal_32 : decode cX7_decimal 32 = .ok (.goto 25, 3) := by decide +kernel
theorem dX7_decimal_35 : decode cX7_decimal 35 = .ok (.iload 5, 2) := by decide +kernel
theorem dX7_decimal_37 : decode cX7_decimal 37 = .ok (.iconst 1, 1) := by decide +kernel
theorem dX7_decimal_38 : decode cX7_decimal 38 = .ok (.if_icmp .ne 14, 3) := by decide +kernel
theorem dX7_decimal_41 : decode cX7_decimal 41 = .ok (.iload 4, 2) := by decide +kernel
theorem dX7_decimal_43 : decode cX7_decimal 43 = .ok (.bipush 10, 2) := by decide +kernel
theorem dX7_decimal_45 : decode cX7_decimal 45 = .ok (.idiv, 1) := by decide +kernel
theorem dX7_decimal_46 : decode cX7_decimal 46 = .ok (.bipush 10, 2) := by decide +kernel
theorem dX7_decimal_48 : decode cX7_decimal 48 = .ok (.irem, 1) := by decide +kernel
theorem dX7_decimal_49 : decode cX7_decimal 49 = .ok (.goto 8, 3) := by decide +kernel
theorem dX7_decimal_52 : decode cX7_decimal 52 = .ok (.iload 4, 2) := by decide +kernel
theorem dX7_decimal_54 : decode cX7_decimal 54 = .ok (.bipush 10, 2) := by decide +kernel
theorem dX7_decimal_56 : decode cX7_decimal 56 = .ok (.irem, 1) := by decide +kernel
theorem dX7_decimal_57 : decode cX7_decimal 57 = .ok (.ireturn, 1) := by decide +kernel
theorem dX7_canRuin_0 : decode cX7_canRuin 0 = .ok (.iload_n 1, 1) := by decide +kernel
theorem dX7_canRuin_1 : decode cX7_canRuin 1 = .ok (.iconst 0, 1) := by decide +kernel
theorem dX7_canRuin_2 : decode cX7_canRuin 2 = .ok (.bipush 100, 2) := by decide +kernel
theorem dX7_canRuin_4 : decode cX7_canRuin 4 = .ok (.invokestatic 80, 3) := by decide +kernel
theorem dX7_canRuin_7 : decode cX7_canRuin 7 = .ok (.ifCond .eq 36, 3) := by decide +kernel
theorem dX7_canRuin_10 : decode cX7_canRuin 10 = .ok (.iload_n 2, 1) := by decide +kernel
theorem dX7_canRuin_11 : decode cX7_canRuin 11 = .ok (.iconst 0, 1) := by decide +kernel
theorem dX7_canRuin_12 : decode cX7_canRuin 12 = .ok (.bipush 20, 2) := by decide +kernel
theorem dX7_canRuin_14 : decode cX7_canRuin 14 = .ok (.invokestatic 80, 3) := by decide +kernel
theorem dX7_canRuin_17 : decode cX7_canRuin 17 = .ok (.ifCond .eq 26, 3) := by decide +kernel
theorem dX7_canRuin_20 : decode cX7_canRuin 20 = .ok (.aload_n 0, 1) := by decide +kernel
theorem dX7_canRuin_21 : decode cX7_canRuin 21 = .ok (.iload_n 3, 1) := by decide +kernel
theorem dX7_canRuin_22 : decode cX7_canRuin 22 = .ok (.invokevirtual 88, 3) := by decide +kernel
theorem dX7_canRuin_25 : decode cX7_canRuin 25 = .ok (.ifCond .eq 18, 3) := by decide +kernel
theorem dX7_canRuin_28 : decode cX7_canRuin 28 = .ok (.iload 4, 2) := by decide +kernel
theorem dX7_canRuin_30 : decode cX7_canRuin 30 = .ok (.iconst 1, 1) := by decide +kernel
theorem dX7_canRuin_31 : decode cX7_canRuin 31 = .ok (.iload 5, 2) := by decide +kernel
theorem dX7_canRuin_33 : decode cX7_canRuin 33 = .ok (.invokestatic 80, 3) := by decide +kernel
theorem dX7_canRuin_36 : decode cX7_canRuin 36 = .ok (.ifCond .eq 7, 3) := by decide +kernel
theorem dX7_canRuin_39 : decode cX7_canRuin 39 = .ok (.iconst 1, 1) := by decide +kernel
theorem dX7_canRuin_40 : decode cX7_canRuin 40 = .ok (.goto 4, 3) := by decide +kernel
theorem dX7_canRuin_43 : decode cX7_canRuin 43 = .ok (.iconst 0, 1) := by decide +kernel
theorem dX7_canRuin_44 : decode cX7_canRuin 44 = .ok (.ireturn, 1) := by decide +kernel
theorem dX7_runs_0 : decode cX7_runs 0 = .ok (.iconst 0, 1) := by decide +kernel
theorem dX7_runs_1 : decode cX7_runs 1 = .ok (.istore 5, 2) := by decide +kernel
theorem dX7_runs_3 : decode cX7_runs 3 = .ok (.iload 5, 2) := by decide +kernel
theorem dX7_runs_5 : decode cX7_runs 5 = .ok (.sipush 901, 3) := by decide +kernel
theorem dX7_runs_8 : decode cX7_runs 8 = .ok (.if_icmp .ge 19, 3) := by decide +kernel
theorem dX7_runs_11 : decode cX7_runs 11 = .ok (.aload_n 0, 1) := by decide +kernel
theorem dX7_runs_12 : decode cX7_runs 12 = .ok (.getfield 34, 3) := by decide +kernel
theorem dX7_runs_15 : decode cX7_runs 15 = .ok (.iload 5, 2) := by decide +kernel
theorem dX7_runs_17 : decode cX7_runs 17 = .ok (.aaload, 1) := by decide +kernel
theorem dX7_runs_18 : decode cX7_runs 18 = .ok (.invokestatic 112, 3) := by decide +kernel
theorem dX7_runs_21 : decode cX7_runs 21 = .ok (.iinc 5 1, 3) := by decide +kernel
theorem dX7_runs_24 : decode cX7_runs 24 = .ok (.goto (-21), 3) := by decide +kernel
theorem dX7_runs_27 : decode cX7_runs 27 = .ok (.iconst 0, 1) := by decide +kernel
theorem dX7_runs_28 : decode cX7_runs 28 = .ok (.istore 5, 2) := by decide +kernel
theorem dX7_runs_30 : decode cX7_runs 30 = .ok (.iload 5, 2) := by decide +kernel
theorem dX7_runs_32 : decode cX7_runs 32 = .ok (.bipush 40, 2) := by decide +kernel
theorem dX7_runs_34 : decode cX7_runs 34 = .ok (.if_icmp .gt 19, 3) := by decide +kernel
theorem dX7_runs_37 : decode cX7_runs 37 = .ok (.aload_n 0, 1) := by decide +kernel
theorem dX7_runs_38 : decode cX7_runs 38 = .ok (.getfield 40, 3) := by decide +kernel
theorem dX7_runs_41 : decode cX7_runs 41 = .ok (.iload 5, 2) := by decide +kernel
theorem dX7_runs_43 : decode cX7_runs 43 = .ok (.aaload, 1) := by decide +kernel
theorem dX7_runs_44 : decode cX7_runs 44 = .ok (.invokestatic 112, 3) := by decide +kernel
theorem dX7_runs_47 : decode cX7_runs 47 = .ok (.iinc 5 1, 3) := by decide +kernel
theorem dX7_runs_50 : decode cX7_runs 50 = .ok (.goto (-20), 3) := by decide +kernel
theorem dX7_runs_53 : decode cX7_runs 53 = .ok (.iconst 0, 1) := by decide +kernel
theorem dX7_runs_54 : decode cX7_runs 54 = .ok (.istore 5, 2) := by decide +kernel
theorem dX7_runs_56 : decode cX7_runs 56 = .ok (.iload 5, 2) := by decide +kernel
theorem dX7_runs_58 : decode cX7_runs 58 = .ok (.bipush 21, 2) := by decide +kernel
theorem dX7_runs_60 : decode cX7_runs 60 = .ok (.if_icmp .ge 19, 3) := by decide +kernel
theorem dX7_runs_63 : decode cX7_runs 63 = .ok (.aload_n 0, 1) := by decide +kernel
theorem dX7_runs_64 : decode cX7_runs 64 = .ok (.getfield 43, 3) := by decide +kernel
theorem dX7_runs_67 : decode cX7_runs 67 = .ok (.iload 5, 2) := by decide +kernel
theorem dX7_runs_69 : decode cX7_runs 69 = .ok (.aaload, 1) := by decide +kernel
theorem dX7_runs_70 : decode cX7_runs 70 = .ok (.invokestatic 112, 3) := by decide +kernel
theorem dX7_runs_73 : decode cX7_runs 73 = .ok (.iinc 5 1, 3) := by decide +kernel
theorem dX7_runs_76 : decode cX7_runs 76 = .ok (.goto (-20), 3) := by decide +kernel
theorem dX7_runs_79 : decode cX7_runs 79 = .ok (.aload_n 0, 1) := by decide +kernel
theorem dX7_runs_80 : decode cX7_runs 80 = .ok (.getfield 34, 3) := by decide +kernel
theorem dX7_runs_83 : decode cX7_runs 83 = .ok (.iload_n 1, 1) := by decide +kernel
theorem dX7_runs_84 : decode cX7_runs 84 = .ok (.aaload, 1) := by decide +kernel
theorem dX7_runs_85 : decode cX7_runs 85 = .ok (.iconst 0, 1) := by decide +kernel
theorem dX7_runs_86 : decode cX7_runs 86 = .ok (.iconst 1, 1) := by decide +kernel
theorem dX7_runs_87 : decode cX7_runs 87 = .ok (.iastore, 1) := by decide +kernel
theorem dX7_runs_88 : decode cX7_runs 88 = .ok (.aload_n 0, 1) := by decide +kernel
theorem dX7_runs_89 : decode cX7_runs 89 = .ok (.iload 4, 2) := by decide +kernel
theorem dX7_runs_91 : decode cX7_runs 91 = .ok (.iconst 2, 1) := by decide +kernel
theorem dX7_runs_92 : decode cX7_runs 92 = .ok (.iadd, 1) := by decide +kernel
theorem dX7_runs_93 : decode cX7_runs 93 = .ok (.putfield 27, 3) := by decide +kernel
theorem dX7_runs_96 : decode cX7_runs 96 = .ok (.iload_n 1, 1) := by decide +kernel
theorem dX7_runs_97 : decode cX7_runs 97 = .ok (.istore 5, 2) := by decide +kernel
theorem dX7_runs_99 : decode cX7_runs 99 = .ok (.iconst 1, 1) := by decide +kernel
theorem dX7_runs_100 : decode cX7_runs 100 = .ok (.istore 6, 2) := by decide +kernel
theorem dX7_runs_102 : decode cX7_runs 102 = .ok (.iload 6, 2) := by decide +kernel
theorem dX7_runs_104 : decode cX7_runs 104 = .ok (.iload 4, 2) := by decide +kernel
theorem dX7_runs_106 : decode cX7_runs 106 = .ok (.if_icmp .gt 237, 3) := by decide +kernel
theorem dX7_runs_109 : decode cX7_runs 109 = .ok (.iload 5, 2) := by decide +kernel
theorem dX7_runs_111 : decode cX7_runs 111 = .ok (.iload_n 2, 1) := by decide +kernel
theorem dX7_runs_112 : decode cX7_runs 112 = .ok (.iadd, 1) := by decide +kernel
theorem dX7_runs_113 : decode cX7_runs 113 = .ok (.istore 7, 2) := by decide +kernel
theorem dX7_runs_115 : decode cX7_runs 115 = .ok (.iconst 0, 1) := by decide +kernel
theorem dX7_runs_116 : decode cX7_runs 116 = .ok (.istore 8, 2) := by decide +kernel
theorem dX7_runs_118 : decode cX7_runs 118 = .ok (.iload 8, 2) := by decide +kernel
theorem dX7_runs_120 : decode cX7_runs 120 = .ok (.iload 7, 2) := by decide +kernel
theorem dX7_runs_122 : decode cX7_runs 122 = .ok (.if_icmp .gt 19, 3) := by decide +kernel
theorem dX7_runs_125 : decode cX7_runs 125 = .ok (.aload_n 0, 1) := by decide +kernel
theorem dX7_runs_126 : decode cX7_runs 126 = .ok (.getfield 37, 3) := by decide +kernel
theorem dX7_runs_129 : decode cX7_runs 129 = .ok (.iload 8, 2) := by decide +kernel
theorem dX7_runs_131 : decode cX7_runs 131 = .ok (.aaload, 1) := by decide +kernel
theorem dX7_runs_132 : decode cX7_runs 132 = .ok (.invokestatic 112, 3) := by decide +kernel
theorem dX7_runs_135 : decode cX7_runs 135 = .ok (.iinc 8 1, 3) := by decide +kernel
theorem dX7_runs_138 : decode cX7_runs 138 = .ok (.goto (-20), 3) := by decide +kernel
theorem dX7_runs_141 : decode cX7_runs 141 = .ok (.iconst 0, 1) := by decide +kernel
theorem dX7_runs_142 : decode cX7_runs 142 = .ok (.istore 8, 2) := by decide +kernel
theorem dX7_runs_144 : decode cX7_runs 144 = .ok (.iload 8, 2) := by decide +kernel
theorem dX7_runs_146 : decode cX7_runs 146 = .ok (.iload 5, 2) := by decide +kernel
theorem dX7_runs_148 : decode cX7_runs 148 = .ok (.if_icmp .gt 152, 3) := by decide +kernel
theorem dX7_runs_151 : decode cX7_runs 151 = .ok (.aload_n 0, 1) := by decide +kernel
theorem dX7_runs_152 : decode cX7_runs 152 = .ok (.aload_n 0, 1) := by decide +kernel
theorem dX7_runs_153 : decode cX7_runs 153 = .ok (.getfield 34, 3) := by decide +kernel
theorem dX7_runs_156 : decode cX7_runs 156 = .ok (.iload 8, 2) := by decide +kernel
theorem dX7_runs_158 : decode cX7_runs 158 = .ok (.aaload, 1) := by decide +kernel
theorem dX7_runs_159 : decode cX7_runs 159 = .ok (.invokevirtual 116, 3) := by decide +kernel
theorem dX7_runs_162 : decode cX7_runs 162 = .ok (.ifCond .eq 6, 3) := by decide +kernel
theorem dX7_runs_165 : decode cX7_runs 165 = .ok (.goto 129, 3) := by decide +kernel
theorem dX7_runs_168 : decode cX7_runs 168 = .ok (.iconst 0, 1) := by decide +kernel
theorem dX7_runs_169 : decode cX7_runs 169 = .ok (.istore 9, 2) := by decide +kernel
theorem dX7_runs_171 : decode cX7_runs 171 = .ok (.iload 9, 2) := by decide +kernel
theorem dX7_runs_173 : decode cX7_runs 173 = .ok (.bipush 21, 2) := by decide +kernel
theorem dX7_runs_175 : decode cX7_runs 175 = .ok (.if_icmp .ge 119, 3) := by decide +kernel
theorem dX7_runs_178 : decode cX7_runs 178 = .ok (.iload 8, 2) := by decide +kernel
theorem dX7_runs_180 : decode cX7_runs 180 = .ok (.iload_n 2, 1) := by decide +kernel
theorem dX7_runs_181 : decode cX7_runs 181 = .ok (.iadd, 1) := by decide +kernel
theorem dX7_runs_182 : decode cX7_runs 182 = .ok (.iload 9, 2) := by decide +kernel
theorem dX7_runs_184 : decode cX7_runs 184 = .ok (.isub, 1) := by decide +kernel
theorem dX7_runs_185 : decode cX7_runs 185 = .ok (.istore 10, 2) := by decide +kernel
theorem dX7_runs_187 : decode cX7_runs 187 = .ok (.iload 10, 2) := by decide +kernel
theorem dX7_runs_189 : decode cX7_runs 189 = .ok (.ifCond .lt 34, 3) := by decide +kernel
theorem dX7_runs_192 : decode cX7_runs 192 = .ok (.aload_n 0, 1) := by decide +kernel
theorem dX7_runs_193 : decode cX7_runs 193 = .ok (.aload_n 0, 1) := by decide +kernel
theorem dX7_runs_194 : decode cX7_runs 194 = .ok (.getfield 37, 3) := by decide +kernel
theorem dX7_runs_197 : decode cX7_runs 197 = .ok (.iload 10, 2) := by decide +kernel
theorem dX7_runs_199 : decode cX7_runs 199 = .ok (.aaload, 1) := by decide +kernel
theorem dX7_runs_200 : decode cX7_runs 200 = .ok (.aload_n 0, 1) := by decide +kernel
theorem dX7_runs_201 : decode cX7_runs 201 = .ok (.getfield 34, 3) := by decide +kernel
theorem dX7_runs_204 : decode cX7_runs 204 = .ok (.iload 8, 2) := by decide +kernel
theorem dX7_runs_206 : decode cX7_runs 206 = .ok (.aaload, 1) := by decide +kernel
theorem dX7_runs_207 : decode cX7_runs 207 = .ok (.aload_n 0, 1) := by decide +kernel
theorem dX7_runs_208 : decode cX7_runs 208 = .ok (.getfield 11, 3) := by decide +kernel
theorem dX7_runs_211 : decode cX7_runs 211 = .ok (.iload_n 3, 1) := by decide +kernel
theorem dX7_runs_212 : decode cX7_runs 212 = .ok (.aaload, 1) := by decide +kernel
theorem dX7_runs_213 : decode cX7_runs 213 = .ok (.iload 9, 2) := by decide +kernel
theorem dX7_runs_215 : decode cX7_runs 215 = .ok (.iaload, 1) := by decide +kernel
theorem dX7_runs_216 : decode cX7_runs 216 = .ok (.iconst 0, 1) := by decide +kernel
theorem dX7_runs_217 : decode cX7_runs 217 = .ok (.invokevirtual 120, 3) := by decide +kernel
theorem dX7_runs_220 : decode cX7_runs 220 = .ok (.goto 68, 3) := by decide +kernel
theorem dX7_runs_223 : decode cX7_runs 223 = .ok (.aload_n 0, 1) := by decide +kernel
theorem dX7_runs_224 : decode cX7_runs 224 = .ok (.aload_n 0, 1) := by decide +kernel
theorem dX7_runs_225 : decode cX7_runs 225 = .ok (.getfield 40, 3) := by decide +kernel
theorem dX7_runs_228 : decode cX7_runs 228 = .ok (.iload 6, 2) := by decide +kernel
theorem dX7_runs_230 : decode cX7_runs 230 = .ok (.aaload, 1) := by decide +kernel
theorem dX7_runs_231 : decode cX7_runs 231 = .ok (.aload_n 0, 1) := by decide +kernel
theorem dX7_runs_232 : decode cX7_runs 232 = .ok (.getfield 34, 3) := by decide +kernel
theorem dX7_runs_235 : decode cX7_runs 235 = .ok (.iload 8, 2) := by decide +kernel
theorem dX7_runs_237 : decode cX7_runs 237 = .ok (.aaload, 1) := by decide +kernel
theorem dX7_runs_238 : decode cX7_runs 238 = .ok (.aload_n 0, 1) := by decide +kernel
theorem dX7_runs_239 : decode cX7_runs 239 = .ok (.getfield 11, 3) := by decide +kernel
theorem dX7_runs_242 : decode cX7_runs 242 = .ok (.iload_n 3, 1) := by decide +kernel
theorem dX7_runs_243 : decode cX7_runs 243 = .ok (.aaload, 1) := by decide +kernel
theorem dX7_runs_244 : decode cX7_runs 244 = .ok (.iload 9, 2) := by decide +kernel
theorem dX7_runs_246 : decode cX7_runs 246 = .ok (.iaload, 1) := by decide +kernel
theorem dX7_runs_247 : decode cX7_runs 247 = .ok (.iload 4, 2) := by decide +kernel
theorem dX7_runs_249 : decode cX7_runs 249 = .ok (.iload 6, 2) := by decide +kernel
theorem dX7_runs_251 : decode cX7_runs 251 = .ok (.isub, 1) := by decide +kernel
theorem dX7_runs_252 : decode cX7_runs 252 = .ok (.invokevirtual 120, 3) := by decide +kernel
theorem dX7_runs_255 : decode cX7_runs 255 = .ok (.aload_n 0, 1) := by decide +kernel
theorem dX7_runs_256 : decode cX7_runs 256 = .ok (.aload_n 0, 1) := by decide +kernel
theorem dX7_runs_257 : decode cX7_runs 257 = .ok (.getfield 43, 3) := by decide +kernel
theorem dX7_runs_260 : decode cX7_runs 260 = .ok (.iload 10, 2) := by decide +kernel
theorem dX7_runs_262 : decode cX7_runs 262 = .ok (.ineg, 1) := by decide +kernel
theorem dX7_runs_263 : decode cX7_runs 263 = .ok (.aaload, 1) := by decide +kernel
theorem dX7_runs_264 : decode cX7_runs 264 = .ok (.aload_n 0, 1) := by decide +kernel
theorem dX7_runs_265 : decode cX7_runs 265 = .ok (.getfield 34, 3) := by decide +kernel
theorem dX7_runs_268 : decode cX7_runs 268 = .ok (.iload 8, 2) := by decide +kernel
theorem dX7_runs_270 : decode cX7_runs 270 = .ok (.aaload, 1) := by decide +kernel
theorem dX7_runs_271 : decode cX7_runs 271 = .ok (.aload_n 0, 1) := by decide +kernel
theorem dX7_runs_272 : decode cX7_runs 272 = .ok (.getfield 11, 3) := by decide +kernel
theorem dX7_runs_275 : decode cX7_runs 275 = .ok (.iload_n 3, 1) := by decide +kernel
theorem dX7_runs_276 : decode cX7_runs 276 = .ok (.aaload, 1) := by decide +kernel
theorem dX7_runs_277 : decode cX7_runs 277 = .ok (.iload 9, 2) := by decide +kernel
theorem dX7_runs_279 : decode cX7_runs 279 = .ok (.iaload, 1) := by decide +kernel
theorem dX7_runs_280 : decode cX7_runs 280 = .ok (.iload 4, 2) := by decide +kernel
theorem dX7_runs_282 : decode cX7_runs 282 = .ok (.iload 6, 2) := by decide +kernel
theorem dX7_runs_284 : decode cX7_runs 284 = .ok (.isub, 1) := by decide +kernel
theorem dX7_runs_285 : decode cX7_runs 285 = .ok (.invokevirtual 120, 3) := by decide +kernel
theorem dX7_runs_288 : decode cX7_runs 288 = .ok (.iinc 9 1, 3) := by decide +kernel
theorem dX7_runs_291 : decode cX7_runs 291 = .ok (.goto (-120), 3) := by decide +kernel
theorem dX7_runs_294 : decode cX7_runs 294 = .ok (.iinc 8 1, 3) := by decide +kernel
theorem dX7_runs_297 : decode cX7_runs 297 = .ok (.goto (-153), 3) := by decide +kernel
theorem dX7_runs_300 : decode cX7_runs 300 = .ok (.iconst 0, 1) := by decide +kernel
theorem dX7_runs_301 : decode cX7_runs 301 = .ok (.istore 8, 2) := by decide +kernel
theorem dX7_runs_303 : decode cX7_runs 303 = .ok (.iload 8, 2) := by decide +kernel
theorem dX7_runs_305 : decode cX7_runs 305 = .ok (.iload 7, 2) := by decide +kernel
theorem dX7_runs_307 : decode cX7_runs 307 = .ok (.if_icmp .gt 26, 3) := by decide +kernel
theorem dX7_runs_310 : decode cX7_runs 310 = .ok (.aload_n 0, 1) := by decide +kernel
theorem dX7_runs_311 : decode cX7_runs 311 = .ok (.getfield 37, 3) := by decide +kernel
theorem dX7_runs_314 : decode cX7_runs 314 = .ok (.iload 8, 2) := by decide +kernel
theorem dX7_runs_316 : decode cX7_runs 316 = .ok (.aaload, 1) := by decide +kernel
theorem dX7_runs_317 : decode cX7_runs 317 = .ok (.aload_n 0, 1) := by decide +kernel
theorem dX7_runs_318 : decode cX7_runs 318 = .ok (.getfield 34, 3) := by decide +kernel
theorem dX7_runs_321 : decode cX7_runs 321 = .ok (.iload 8, 2) := by decide +kernel
theorem dX7_runs_323 : decode cX7_runs 323 = .ok (.aaload, 1) := by decide +kernel
theorem dX7_runs_324 : decode cX7_runs 324 = .ok (.invokestatic 124, 3) := by decide +kernel
theorem dX7_runs_327 : decode cX7_runs 327 = .ok (.iinc 8 1, 3) := by decide +kernel
theorem dX7_runs_330 : decode cX7_runs 330 = .ok (.goto (-27), 3) := by decide +kernel
theorem dX7_runs_333 : decode cX7_runs 333 = .ok (.iload 7, 2) := by decide +kernel
theorem dX7_runs_335 : decode cX7_runs 335 = .ok (.istore 5, 2) := by decide +kernel
theorem dX7_runs_337 : decode cX7_runs 337 = .ok (.iinc 6 1, 3) := by decide +kernel
theorem dX7_runs_340 : decode cX7_runs 340 = .ok (.goto (-238), 3) := by decide +kernel
theorem dX7_runs_343 : decode cX7_runs 343 = .ok (.aload_n 0, 1) := by decide +kernel
theorem dX7_runs_344 : decode cX7_runs 344 = .ok (.bipush 72, 2) := by decide +kernel
theorem dX7_runs_346 : decode cX7_runs 346 = .ok (.putfield 27, 3) := by decide +kernel
theorem dX7_runs_349 : decode cX7_runs 349 = .ok (.return_, 1) := by decide +kernel
theorem dX7_all_0 : decode cX7_all 0 = .ok (.aload_n 2, 1) := by decide +kernel
theorem dX7_all_1 : decode cX7_all 1 = .ok (.invokestatic 112, 3) := by decide +kernel
theorem dX7_all_4 : decode cX7_all 4 = .ok (.iconst 1, 1) := by decide +kernel
theorem dX7_all_5 : decode cX7_all 5 = .ok (.istore_n 3, 1) := by decide +kernel
theorem dX7_all_6 : decode cX7_all 6 = .ok (.iload_n 3, 1) := by decide +kernel
theorem dX7_all_7 : decode cX7_all 7 = .ok (.iload_n 1, 1) := by decide +kernel
theorem dX7_all_8 : decode cX7_all 8 = .ok (.if_icmp .gt 22, 3) := by decide +kernel
theorem dX7_all_11 : decode cX7_all 11 = .ok (.aload_n 0, 1) := by decide +kernel
theorem dX7_all_12 : decode cX7_all 12 = .ok (.aload_n 2, 1) := by decide +kernel
theorem dX7_all_13 : decode cX7_all 13 = .ok (.aload_n 0, 1) := by decide +kernel
theorem dX7_all_14 : decode cX7_all 14 = .ok (.getfield 40, 3) := by decide +kernel
theorem dX7_all_17 : decode cX7_all 17 = .ok (.iload_n 3, 1) := by decide +kernel
theorem dX7_all_18 : decode cX7_all 18 = .ok (.aaload, 1) := by decide +kernel
theorem dX7_all_19 : decode cX7_all 19 = .ok (.iconst 1, 1) := by decide +kernel
theorem dX7_all_20 : decode cX7_all 20 = .ok (.iconst 0, 1) := by decide +kernel
theorem dX7_all_21 : decode cX7_all 21 = .ok (.invokevirtual 120, 3) := by decide +kernel
theorem dX7_all_24 : decode cX7_all 24 = .ok (.iinc 3 1, 3) := by decide +kernel
theorem dX7_all_27 : decode cX7_all 27 = .ok (.goto (-21), 3) := by decide +kernel
theorem dX7_all_30 : decode cX7_all 30 = .ok (.return_, 1) := by decide +kernel
theorem dX7_ruin_0 : decode cX7_ruin 0 = .ok (.aload_n 0, 1) := by decide +kernel
theorem dX7_ruin_1 : decode cX7_ruin 1 = .ok (.iload_n 1, 1) := by decide +kernel
theorem dX7_ruin_2 : decode cX7_ruin 2 = .ok (.iload_n 2, 1) := by decide +kernel
theorem dX7_ruin_3 : decode cX7_ruin 3 = .ok (.iload_n 3, 1) := by decide +kernel
theorem dX7_ruin_4 : decode cX7_ruin 4 = .ok (.iload 4, 2) := by decide +kernel
theorem dX7_ruin_6 : decode cX7_ruin 6 = .ok (.bipush 40, 2) := by decide +kernel
theorem dX7_ruin_8 : decode cX7_ruin 8 = .ok (.invokevirtual 128, 3) := by decide +kernel
theorem dX7_ruin_11 : decode cX7_ruin 11 = .ok (.ifCond .ne 5, 3) := by decide +kernel
theorem dX7_ruin_14 : decode cX7_ruin 14 = .ok (.iconst 0, 1) := by decide +kernel
theorem dX7_ruin_15 : decode cX7_ruin 15 = .ok (.ireturn, 1) := by decide +kernel
theorem dX7_ruin_16 : decode cX7_ruin 16 = .ok (.aload_n 0, 1) := by decide +kernel
theorem dX7_ruin_17 : decode cX7_ruin 17 = .ok (.iload_n 1, 1) := by decide +kernel
theorem dX7_ruin_18 : decode cX7_ruin 18 = .ok (.iload_n 2, 1) := by decide +kernel
theorem dX7_ruin_19 : decode cX7_ruin 19 = .ok (.iload_n 3, 1) := by decide +kernel
theorem dX7_ruin_20 : decode cX7_ruin 20 = .ok (.iload 4, 2) := by decide +kernel
theorem dX7_ruin_22 : decode cX7_ruin 22 = .ok (.invokevirtual 132, 3) := by decide +kernel
theorem dX7_ruin_25 : decode cX7_ruin 25 = .ok (.iconst 0, 1) := by decide +kernel
theorem dX7_ruin_26 : decode cX7_ruin 26 = .ok (.istore 5, 2) := by decide +kernel
theorem dX7_ruin_28 : decode cX7_ruin 28 = .ok (.iload 5, 2) := by decide +kernel
theorem dX7_ruin_30 : decode cX7_ruin 30 = .ok (.bipush 40, 2) := by decide +kernel
theorem dX7_ruin_32 : decode cX7_ruin 32 = .ok (.if_icmp .gt 26, 3) := by decide +kernel
theorem dX7_ruin_35 : decode cX7_ruin 35 = .ok (.aload_n 0, 1) := by decide +kernel
theorem dX7_ruin_36 : decode cX7_ruin 36 = .ok (.getfield 40, 3) := by decide +kernel
theorem dX7_ruin_39 : decode cX7_ruin 39 = .ok (.iload 5, 2) := by decide +kernel
theorem dX7_ruin_41 : decode cX7_ruin 41 = .ok (.aaload, 1) := by decide +kernel
theorem dX7_ruin_42 : decode cX7_ruin 42 = .ok (.aload_n 0, 1) := by decide +kernel
theorem dX7_ruin_43 : decode cX7_ruin 43 = .ok (.getfield 18, 3) := by decide +kernel
theorem dX7_ruin_46 : decode cX7_ruin 46 = .ok (.iload 5, 2) := by decide +kernel
theorem dX7_ruin_48 : decode cX7_ruin 48 = .ok (.aaload, 1) := by decide +kernel
theorem dX7_ruin_49 : decode cX7_ruin 49 = .ok (.invokestatic 124, 3) := by decide +kernel
theorem dX7_ruin_52 : decode cX7_ruin 52 = .ok (.iinc 5 1, 3) := by decide +kernel
theorem dX7_ruin_55 : decode cX7_ruin 55 = .ok (.goto (-27), 3) := by decide +kernel
theorem dX7_ruin_58 : decode cX7_ruin 58 = .ok (.iconst 0, 1) := by decide +kernel
theorem dX7_ruin_59 : decode cX7_ruin 59 = .ok (.istore 5, 2) := by decide +kernel
theorem dX7_ruin_61 : decode cX7_ruin 61 = .ok (.iload 5, 2) := by decide +kernel
theorem dX7_ruin_63 : decode cX7_ruin 63 = .ok (.bipush 21, 2) := by decide +kernel
theorem dX7_ruin_65 : decode cX7_ruin 65 = .ok (.if_icmp .ge 26, 3) := by decide +kernel
theorem dX7_ruin_68 : decode cX7_ruin 68 = .ok (.aload_n 0, 1) := by decide +kernel
theorem dX7_ruin_69 : decode cX7_ruin 69 = .ok (.getfield 43, 3) := by decide +kernel
theorem dX7_ruin_72 : decode cX7_ruin 72 = .ok (.iload 5, 2) := by decide +kernel
theorem dX7_ruin_74 : decode cX7_ruin 74 = .ok (.aaload, 1) := by decide +kernel
theorem dX7_ruin_75 : decode cX7_ruin 75 = .ok (.aload_n 0, 1) := by decide +kernel
theorem dX7_ruin_76 : decode cX7_ruin 76 = .ok (.getfield 21, 3) := by decide +kernel
theorem dX7_ruin_79 : decode cX7_ruin 79 = .ok (.iload 5, 2) := by decide +kernel
theorem dX7_ruin_81 : decode cX7_ruin 81 = .ok (.aaload, 1) := by decide +kernel
theorem dX7_ruin_82 : decode cX7_ruin 82 = .ok (.invokestatic 124, 3) := by decide +kernel
theorem dX7_ruin_85 : decode cX7_ruin 85 = .ok (.iinc 5 1, 3) := by decide +kernel
theorem dX7_ruin_88 : decode cX7_ruin 88 = .ok (.goto (-27), 3) := by decide +kernel
theorem dX7_ruin_91 : decode cX7_ruin 91 = .ok (.aload_n 0, 1) := by decide +kernel
theorem dX7_ruin_92 : decode cX7_ruin 92 = .ok (.iload 4, 2) := by decide +kernel
theorem dX7_ruin_94 : decode cX7_ruin 94 = .ok (.putfield 136, 3) := by decide +kernel
theorem dX7_ruin_97 : decode cX7_ruin 97 = .ok (.aload_n 0, 1) := by decide +kernel
theorem dX7_ruin_98 : decode cX7_ruin 98 = .ok (.iload 4, 2) := by decide +kernel
theorem dX7_ruin_100 : decode cX7_ruin 100 = .ok (.aload_n 0, 1) := by decide +kernel
theorem dX7_ruin_101 : decode cX7_ruin 101 = .ok (.getfield 14, 3) := by decide +kernel
theorem dX7_ruin_104 : decode cX7_ruin 104 = .ok (.invokevirtual 139, 3) := by decide +kernel
theorem dX7_ruin_107 : decode cX7_ruin 107 = .ok (.aload_n 0, 1) := by decide +kernel
theorem dX7_ruin_108 : decode cX7_ruin 108 = .ok (.iload 4, 2) := by decide +kernel
theorem dX7_ruin_110 : decode cX7_ruin 110 = .ok (.putfield 143, 3) := by decide +kernel
theorem dX7_ruin_113 : decode cX7_ruin 113 = .ok (.iconst 1, 1) := by decide +kernel
theorem dX7_ruin_114 : decode cX7_ruin 114 = .ok (.ireturn, 1) := by decide +kernel
theorem dX7_at_0 : decode cX7_at 0 = .ok (.iload_n 1, 1) := by decide +kernel
theorem dX7_at_1 : decode cX7_at 1 = .ok (.iconst 1, 1) := by decide +kernel
theorem dX7_at_2 : decode cX7_at 2 = .ok (.aload_n 0, 1) := by decide +kernel
theorem dX7_at_3 : decode cX7_at 3 = .ok (.getfield 136, 3) := by decide +kernel
theorem dX7_at_6 : decode cX7_at 6 = .ok (.invokestatic 80, 3) := by decide +kernel
theorem dX7_at_9 : decode cX7_at 9 = .ok (.ifCond .eq 34, 3) := by decide +kernel
theorem dX7_at_12 : decode cX7_at 12 = .ok (.iload_n 2, 1) := by decide +kernel
theorem dX7_at_13 : decode cX7_at 13 = .ok (.iconst 1, 1) := by decide +kernel
theorem dX7_at_14 : decode cX7_at 14 = .ok (.iconst 3, 1) := by decide +kernel
theorem dX7_at_15 : decode cX7_at 15 = .ok (.aload_n 0, 1) := by decide +kernel
theorem dX7_at_16 : decode cX7_at 16 = .ok (.getfield 136, 3) := by decide +kernel
theorem dX7_at_19 : decode cX7_at 19 = .ok (.imul, 1) := by decide +kernel
theorem dX7_at_20 : decode cX7_at 20 = .ok (.invokestatic 80, 3) := by decide +kernel
theorem dX7_at_23 : decode cX7_at 23 = .ok (.ifCond .eq 20, 3) := by decide +kernel
theorem dX7_at_26 : decode cX7_at 26 = .ok (.aload_n 0, 1) := by decide +kernel
theorem dX7_at_27 : decode cX7_at 27 = .ok (.getfield 18, 3) := by decide +kernel
theorem dX7_at_30 : decode cX7_at 30 = .ok (.iload_n 1, 1) := by decide +kernel
theorem dX7_at_31 : decode cX7_at 31 = .ok (.aaload, 1) := by decide +kernel
theorem dX7_at_32 : decode cX7_at 32 = .ok (.aload_n 0, 1) := by decide +kernel
theorem dX7_at_33 : decode cX7_at 33 = .ok (.getfield 136, 3) := by decide +kernel
theorem dX7_at_36 : decode cX7_at 36 = .ok (.iload_n 2, 1) := by decide +kernel
theorem dX7_at_37 : decode cX7_at 37 = .ok (.invokestatic 146, 3) := by decide +kernel
theorem dX7_at_40 : decode cX7_at 40 = .ok (.goto 4, 3) := by decide +kernel
theorem dX7_at_43 : decode cX7_at 43 = .ok (.iconst (-1), 1) := by decide +kernel
theorem dX7_at_44 : decode cX7_at 44 = .ok (.ireturn, 1) := by decide +kernel
theorem dX7_deep_0 : decode cX7_deep 0 = .ok (.iload_n 1, 1) := by decide +kernel
theorem dX7_deep_1 : decode cX7_deep 1 = .ok (.iconst 1, 1) := by decide +kernel
theorem dX7_deep_2 : decode cX7_deep 2 = .ok (.bipush 20, 2) := by decide +kernel
theorem dX7_deep_4 : decode cX7_deep 4 = .ok (.invokestatic 80, 3) := by decide +kernel
theorem dX7_deep_7 : decode cX7_deep 7 = .ok (.ifCond .eq 34, 3) := by decide +kernel
theorem dX7_deep_10 : decode cX7_deep 10 = .ok (.iload_n 2, 1) := by decide +kernel
theorem dX7_deep_11 : decode cX7_deep 11 = .ok (.iconst 1, 1) := by decide +kernel
theorem dX7_deep_12 : decode cX7_deep 12 = .ok (.iconst 3, 1) := by decide +kernel
theorem dX7_deep_13 : decode cX7_deep 13 = .ok (.aload_n 0, 1) := by decide +kernel
theorem dX7_deep_14 : decode cX7_deep 14 = .ok (.getfield 136, 3) := by decide +kernel
theorem dX7_deep_17 : decode cX7_deep 17 = .ok (.imul, 1) := by decide +kernel
theorem dX7_deep_18 : decode cX7_deep 18 = .ok (.invokestatic 80, 3) := by decide +kernel
theorem dX7_deep_21 : decode cX7_deep 21 = .ok (.ifCond .eq 20, 3) := by decide +kernel
theorem dX7_deep_24 : decode cX7_deep 24 = .ok (.aload_n 0, 1) := by decide +kernel
theorem dX7_deep_25 : decode cX7_deep 25 = .ok (.getfield 21, 3) := by decide +kernel
theorem dX7_deep_28 : decode cX7_deep 28 = .ok (.iload_n 1, 1) := by decide +kernel
theorem dX7_deep_29 : decode cX7_deep 29 = .ok (.aaload, 1) := by decide +kernel
theorem dX7_deep_30 : decode cX7_deep 30 = .ok (.aload_n 0, 1) := by decide +kernel
theorem dX7_deep_31 : decode cX7_deep 31 = .ok (.getfield 136, 3) := by decide +kernel
theorem dX7_deep_34 : decode cX7_deep 34 = .ok (.iload_n 2, 1) := by decide +kernel
theorem dX7_deep_35 : decode cX7_deep 35 = .ok (.invokestatic 146, 3) := by decide +kernel
theorem dX7_deep_38 : decode cX7_deep 38 = .ok (.goto 4, 3) := by decide +kernel
theorem dX7_deep_41 : decode cX7_deep 41 = .ok (.iconst (-1), 1) := by decide +kernel
theorem dX7_deep_42 : decode cX7_deep 42 = .ok (.ireturn, 1) := by decide +kernel
theorem dX7_just_0 : decode cX7_just 0 = .ok (.aload_n 0, 1) := by decide +kernel
theorem dX7_just_1 : decode cX7_just 1 = .ok (.iload_n 1, 1) := by decide +kernel
theorem dX7_just_2 : decode cX7_just 2 = .ok (.iconst 0, 1) := by decide +kernel
theorem dX7_just_3 : decode cX7_just 3 = .ok (.iload_n 2, 1) := by decide +kernel
theorem dX7_just_4 : decode cX7_just 4 = .ok (.iload_n 3, 1) := by decide +kernel
theorem dX7_just_5 : decode cX7_just 5 = .ok (.bipush 12, 2) := by decide +kernel
theorem dX7_just_7 : decode cX7_just 7 = .ok (.invokevirtual 128, 3) := by decide +kernel
theorem dX7_just_10 : decode cX7_just 10 = .ok (.ifCond .eq 14, 3) := by decide +kernel
theorem dX7_just_13 : decode cX7_just 13 = .ok (.iload 4, 2) := by decide +kernel
theorem dX7_just_15 : decode cX7_just 15 = .ok (.iconst 0, 1) := by decide +kernel
theorem dX7_just_16 : decode cX7_just 16 = .ok (.ldc 150, 2) := by decide +kernel
theorem dX7_just_18 : decode cX7_just 18 = .ok (.invokestatic 80, 3) := by decide +kernel
theorem dX7_just_21 : decode cX7_just 21 = .ok (.ifCond .ne 5, 3) := by decide +kernel
theorem dX7_just_24 : decode cX7_just 24 = .ok (.iconst (-1), 1) := by decide +kernel
theorem dX7_just_25 : decode cX7_just 25 = .ok (.ireturn, 1) := by decide +kernel
theorem dX7_just_26 : decode cX7_just 26 = .ok (.iconst 0, 1) := by decide +kernel
theorem dX7_just_27 : decode cX7_just 27 = .ok (.istore 5, 2) := by decide +kernel
theorem dX7_just_29 : decode cX7_just 29 = .ok (.iload 5, 2) := by decide +kernel
theorem dX7_just_31 : decode cX7_just 31 = .ok (.bipush 20, 2) := by decide +kernel
theorem dX7_just_33 : decode cX7_just 33 = .ok (.if_icmp .gt 75, 3) := by decide +kernel
theorem dX7_just_36 : decode cX7_just 36 = .ok (.aload_n 0, 1) := by decide +kernel
theorem dX7_just_37 : decode cX7_just 37 = .ok (.iload_n 1, 1) := by decide +kernel
theorem dX7_just_38 : decode cX7_just 38 = .ok (.iload 5, 2) := by decide +kernel
theorem dX7_just_40 : decode cX7_just 40 = .ok (.iload_n 2, 1) := by decide +kernel
theorem dX7_just_41 : decode cX7_just 41 = .ok (.iload_n 3, 1) := by decide +kernel
theorem dX7_just_42 : decode cX7_just 42 = .ok (.invokevirtual 132, 3) := by decide +kernel
theorem dX7_just_45 : decode cX7_just 45 = .ok (.aload_n 0, 1) := by decide +kernel
theorem dX7_just_46 : decode cX7_just 46 = .ok (.iload_n 3, 1) := by decide +kernel
theorem dX7_just_47 : decode cX7_just 47 = .ok (.aload_n 0, 1) := by decide +kernel
theorem dX7_just_48 : decode cX7_just 48 = .ok (.getfield 46, 3) := by decide +kernel
theorem dX7_just_51 : decode cX7_just 51 = .ok (.invokevirtual 139, 3) := by decide +kernel
theorem dX7_just_54 : decode cX7_just 54 = .ok (.aload_n 0, 1) := by decide +kernel
theorem dX7_just_55 : decode cX7_just 55 = .ok (.getfield 49, 3) := by decide +kernel
theorem dX7_just_58 : decode cX7_just 58 = .ok (.invokestatic 112, 3) := by decide +kernel
theorem dX7_just_61 : decode cX7_just 61 = .ok (.aload_n 0, 1) := by decide +kernel
theorem dX7_just_62 : decode cX7_just 62 = .ok (.aload_n 0, 1) := by decide +kernel
theorem dX7_just_63 : decode cX7_just 63 = .ok (.getfield 49, 3) := by decide +kernel
theorem dX7_just_66 : decode cX7_just 66 = .ok (.aload_n 0, 1) := by decide +kernel
theorem dX7_just_67 : decode cX7_just 67 = .ok (.getfield 46, 3) := by decide +kernel
theorem dX7_just_70 : decode cX7_just 70 = .ok (.iconst 1, 1) := by decide +kernel
theorem dX7_just_71 : decode cX7_just 71 = .ok (.iconst 2, 1) := by decide +kernel
theorem dX7_just_72 : decode cX7_just 72 = .ok (.invokevirtual 120, 3) := by decide +kernel
theorem dX7_just_75 : decode cX7_just 75 = .ok (.aload_n 0, 1) := by decide +kernel
theorem dX7_just_76 : decode cX7_just 76 = .ok (.getfield 31, 3) := by decide +kernel
theorem dX7_just_79 : decode cX7_just 79 = .ok (.iload 4, 2) := by decide +kernel
theorem dX7_just_81 : decode cX7_just 81 = .ok (.iload_n 3, 1) := by decide +kernel
theorem dX7_just_82 : decode cX7_just 82 = .ok (.invokestatic 151, 3) := by decide +kernel
theorem dX7_just_85 : decode cX7_just 85 = .ok (.aload_n 0, 1) := by decide +kernel
theorem dX7_just_86 : decode cX7_just 86 = .ok (.getfield 49, 3) := by decide +kernel
theorem dX7_just_89 : decode cX7_just 89 = .ok (.aload_n 0, 1) := by decide +kernel
theorem dX7_just_90 : decode cX7_just 90 = .ok (.getfield 31, 3) := by decide +kernel
theorem dX7_just_93 : decode cX7_just 93 = .ok (.invokestatic 155, 3) := by decide +kernel
theorem dX7_just_96 : decode cX7_just 96 = .ok (.ifCond .gt 6, 3) := by decide +kernel
theorem dX7_just_99 : decode cX7_just 99 = .ok (.iload 5, 2) := by decide +kernel
theorem dX7_just_101 : decode cX7_just 101 = .ok (.ireturn, 1) := by decide +kernel
theorem dX7_just_102 : decode cX7_just 102 = .ok (.iinc 5 1, 3) := by decide +kernel
theorem dX7_just_105 : decode cX7_just 105 = .ok (.goto (-76), 3) := by decide +kernel
theorem dX7_just_108 : decode cX7_just 108 = .ok (.iconst (-1), 1) := by decide +kernel
theorem dX7_just_109 : decode cX7_just 109 = .ok (.ireturn, 1) := by decide +kernel
theorem dX7_multiply_0 : decode cX7_multiply 0 = .ok (.aload_n 3, 1) := by decide +kernel
theorem dX7_multiply_1 : decode cX7_multiply 1 = .ok (.invokestatic 112, 3) := by decide +kernel
theorem dX7_multiply_4 : decode cX7_multiply 4 = .ok (.iconst 0, 1) := by decide +kernel
theorem dX7_multiply_5 : decode cX7_multiply 5 = .ok (.istore 4, 2) := by decide +kernel
theorem dX7_multiply_7 : decode cX7_multiply 7 = .ok (.iload 4, 2) := by decide +kernel
theorem dX7_multiply_9 : decode cX7_multiply 9 = .ok (.bipush 72, 2) := by decide +kernel
theorem dX7_multiply_11 : decode cX7_multiply 11 = .ok (.if_icmp .ge 28, 3) := by decide +kernel
theorem dX7_multiply_14 : decode cX7_multiply 14 = .ok (.aload_n 2, 1) := by decide +kernel
theorem dX7_multiply_15 : decode cX7_multiply 15 = .ok (.iload 4, 2) := by decide +kernel
theorem dX7_multiply_17 : decode cX7_multiply 17 = .ok (.iaload, 1) := by decide +kernel
theorem dX7_multiply_18 : decode cX7_multiply 18 = .ok (.ifCond .eq 15, 3) := by decide +kernel
theorem dX7_multiply_21 : decode cX7_multiply 21 = .ok (.aload_n 0, 1) := by decide +kernel
theorem dX7_multiply_22 : decode cX7_multiply 22 = .ok (.aload_n 3, 1) := by decide +kernel
theorem dX7_multiply_23 : decode cX7_multiply 23 = .ok (.aload_n 1, 1) := by decide +kernel
theorem dX7_multiply_24 : decode cX7_multiply 24 = .ok (.aload_n 2, 1) := by decide +kernel
theorem dX7_multiply_25 : decode cX7_multiply 25 = .ok (.iload 4, 2) := by decide +kernel
theorem dX7_multiply_27 : decode cX7_multiply 27 = .ok (.iaload, 1) := by decide +kernel
theorem dX7_multiply_28 : decode cX7_multiply 28 = .ok (.iload 4, 2) := by decide +kernel
theorem dX7_multiply_30 : decode cX7_multiply 30 = .ok (.invokevirtual 120, 3) := by decide +kernel
theorem dX7_multiply_33 : decode cX7_multiply 33 = .ok (.iinc 4 1, 3) := by decide +kernel
theorem dX7_multiply_36 : decode cX7_multiply 36 = .ok (.goto (-29), 3) := by decide +kernel
theorem dX7_multiply_39 : decode cX7_multiply 39 = .ok (.return_, 1) := by decide +kernel
theorem dX7_ever_0 : decode cX7_ever 0 = .ok (.iload_n 1, 1) := by decide +kernel
theorem dX7_ever_1 : decode cX7_ever 1 = .ok (.iconst 0, 1) := by decide +kernel
theorem dX7_ever_2 : decode cX7_ever 2 = .ok (.bipush 60, 2) := by decide +kernel
theorem dX7_ever_4 : decode cX7_ever 4 = .ok (.invokestatic 80, 3) := by decide +kernel
theorem dX7_ever_7 : decode cX7_ever 7 = .ok (.ifCond .eq 11, 3) := by decide +kernel
theorem dX7_ever_10 : decode cX7_ever 10 = .ok (.aload_n 0, 1) := by decide +kernel
theorem dX7_ever_11 : decode cX7_ever 11 = .ok (.iload_n 2, 1) := by decide +kernel
theorem dX7_ever_12 : decode cX7_ever 12 = .ok (.invokevirtual 88, 3) := by decide +kernel
theorem dX7_ever_15 : decode cX7_ever 15 = .ok (.ifCond .ne 5, 3) := by decide +kernel
theorem dX7_ever_18 : decode cX7_ever 18 = .ok (.iconst 0, 1) := by decide +kernel
theorem dX7_ever_19 : decode cX7_ever 19 = .ok (.ireturn, 1) := by decide +kernel
theorem dX7_ever_20 : decode cX7_ever 20 = .ok (.aload_n 0, 1) := by decide +kernel
theorem dX7_ever_21 : decode cX7_ever 21 = .ok (.getfield 14, 3) := by decide +kernel
theorem dX7_ever_24 : decode cX7_ever 24 = .ok (.invokestatic 112, 3) := by decide +kernel
theorem dX7_ever_27 : decode cX7_ever 27 = .ok (.aload_n 0, 1) := by decide +kernel
theorem dX7_ever_28 : decode cX7_ever 28 = .ok (.bipush 10, 2) := by decide +kernel
theorem dX7_ever_30 : decode cX7_ever 30 = .ok (.putfield 143, 3) := by decide +kernel
theorem dX7_ever_33 : decode cX7_ever 33 = .ok (.aload_n 0, 1) := by decide +kernel
theorem dX7_ever_34 : decode cX7_ever 34 = .ok (.iload_n 2, 1) := by decide +kernel
theorem dX7_ever_35 : decode cX7_ever 35 = .ok (.invokevirtual 91, 3) := by decide +kernel
theorem dX7_ever_38 : decode cX7_ever 38 = .ok (.istore_n 3, 1) := by decide +kernel
theorem dX7_ever_39 : decode cX7_ever 39 = .ok (.iload_n 3, 1) := by decide +kernel
theorem dX7_ever_40 : decode cX7_ever 40 = .ok (.sipush 1000, 3) := by decide +kernel
theorem dX7_ever_43 : decode cX7_ever 43 = .ok (.if_icmp .lt 27, 3) := by decide +kernel
theorem dX7_ever_46 : decode cX7_ever 46 = .ok (.aload_n 0, 1) := by decide +kernel
theorem dX7_ever_47 : decode cX7_ever 47 = .ok (.getfield 11, 3) := by decide +kernel
theorem dX7_ever_50 : decode cX7_ever 50 = .ok (.iload_n 2, 1) := by decide +kernel
theorem dX7_ever_51 : decode cX7_ever 51 = .ok (.aaload, 1) := by decide +kernel
theorem dX7_ever_52 : decode cX7_ever 52 = .ok (.iconst 1, 1) := by decide +kernel
theorem dX7_ever_53 : decode cX7_ever 53 = .ok (.iaload, 1) := by decide +kernel
theorem dX7_ever_54 : decode cX7_ever 54 = .ok (.sipush 1000, 3) := by decide +kernel
theorem dX7_ever_57 : decode cX7_ever 57 = .ok (.if_icmp .eq 11, 3) := by decide +kernel
theorem dX7_ever_60 : decode cX7_ever 60 = .ok (.aload_n 0, 1) := by decide +kernel
theorem dX7_ever_61 : decode cX7_ever 61 = .ok (.getfield 14, 3) := by decide +kernel
theorem dX7_ever_64 : decode cX7_ever 64 = .ok (.bipush 10, 2) := by decide +kernel
theorem dX7_ever_66 : decode cX7_ever 66 = .ok (.iconst 1, 1) := by decide +kernel
theorem dX7_ever_67 : decode cX7_ever 67 = .ok (.iastore, 1) := by decide +kernel
theorem dX7_ever_68 : decode cX7_ever 68 = .ok (.iconst 1, 1) := by decide +kernel
theorem dX7_ever_69 : decode cX7_ever 69 = .ok (.ireturn, 1) := by decide +kernel
theorem dX7_ever_70 : decode cX7_ever 70 = .ok (.aload_n 0, 1) := by decide +kernel
theorem dX7_ever_71 : decode cX7_ever 71 = .ok (.getfield 55, 3) := by decide +kernel
theorem dX7_ever_74 : decode cX7_ever 74 = .ok (.iconst 0, 1) := by decide +kernel
theorem dX7_ever_75 : decode cX7_ever 75 = .ok (.aaload, 1) := by decide +kernel
theorem dX7_ever_76 : decode cX7_ever 76 = .ok (.iconst 1, 1) := by decide +kernel
theorem dX7_ever_77 : decode cX7_ever 77 = .ok (.iconst 0, 1) := by decide +kernel
theorem dX7_ever_78 : decode cX7_ever 78 = .ok (.invokestatic 151, 3) := by decide +kernel
theorem dX7_ever_81 : decode cX7_ever 81 = .ok (.iconst 1, 1) := by decide +kernel
theorem dX7_ever_82 : decode cX7_ever 82 = .ok (.istore 4, 2) := by decide +kernel
theorem dX7_ever_84 : decode cX7_ever 84 = .ok (.iload 4, 2) := by decide +kernel
theorem dX7_ever_86 : decode cX7_ever 86 = .ok (.iload_n 1, 1) := by decide +kernel
theorem dX7_ever_87 : decode cX7_ever 87 = .ok (.iconst 1, 1) := by decide +kernel
theorem dX7_ever_88 : decode cX7_ever 88 = .ok (.iadd, 1) := by decide +kernel
theorem dX7_ever_89 : decode cX7_ever 89 = .ok (.if_icmp .gt 48, 3) := by decide +kernel
theorem dX7_ever_92 : decode cX7_ever 92 = .ok (.aload_n 0, 1) := by decide +kernel
theorem dX7_ever_93 : decode cX7_ever 93 = .ok (.getfield 55, 3) := by decide +kernel
theorem dX7_ever_96 : decode cX7_ever 96 = .ok (.iload 4, 2) := by decide +kernel
theorem dX7_ever_98 : decode cX7_ever 98 = .ok (.aaload, 1) := by decide +kernel
theorem dX7_ever_99 : decode cX7_ever 99 = .ok (.invokestatic 112, 3) := by decide +kernel
theorem dX7_ever_102 : decode cX7_ever 102 = .ok (.aload_n 0, 1) := by decide +kernel
theorem dX7_ever_103 : decode cX7_ever 103 = .ok (.aload_n 0, 1) := by decide +kernel
theorem dX7_ever_104 : decode cX7_ever 104 = .ok (.getfield 55, 3) := by decide +kernel
theorem dX7_ever_107 : decode cX7_ever 107 = .ok (.iload 4, 2) := by decide +kernel
theorem dX7_ever_109 : decode cX7_ever 109 = .ok (.aaload, 1) := by decide +kernel
theorem dX7_ever_110 : decode cX7_ever 110 = .ok (.aload_n 0, 1) := by decide +kernel
theorem dX7_ever_111 : decode cX7_ever 111 = .ok (.getfield 55, 3) := by decide +kernel
theorem dX7_ever_114 : decode cX7_ever 114 = .ok (.iload 4, 2) := by decide +kernel
theorem dX7_ever_116 : decode cX7_ever 116 = .ok (.iconst 1, 1) := by decide +kernel
theorem dX7_ever_117 : decode cX7_ever 117 = .ok (.isub, 1) := by decide +kernel
theorem dX7_ever_118 : decode cX7_ever 118 = .ok (.aaload, 1) := by decide +kernel
theorem dX7_ever_119 : decode cX7_ever 119 = .ok (.aload_n 0, 1) := by decide +kernel
theorem dX7_ever_120 : decode cX7_ever 120 = .ok (.getfield 11, 3) := by decide +kernel
theorem dX7_ever_123 : decode cX7_ever 123 = .ok (.iload_n 2, 1) := by decide +kernel
theorem dX7_ever_124 : decode cX7_ever 124 = .ok (.aaload, 1) := by decide +kernel
theorem dX7_ever_125 : decode cX7_ever 125 = .ok (.iconst 0, 1) := by decide +kernel
theorem dX7_ever_126 : decode cX7_ever 126 = .ok (.iaload, 1) := by decide +kernel
theorem dX7_ever_127 : decode cX7_ever 127 = .ok (.iconst 0, 1) := by decide +kernel
theorem dX7_ever_128 : decode cX7_ever 128 = .ok (.invokevirtual 120, 3) := by decide +kernel
theorem dX7_ever_131 : decode cX7_ever 131 = .ok (.iinc 4 1, 3) := by decide +kernel
theorem dX7_ever_134 : decode cX7_ever 134 = .ok (.goto (-50), 3) := by decide +kernel
theorem dX7_ever_137 : decode cX7_ever 137 = .ok (.aload_n 0, 1) := by decide +kernel
theorem dX7_ever_138 : decode cX7_ever 138 = .ok (.getfield 52, 3) := by decide +kernel
theorem dX7_ever_141 : decode cX7_ever 141 = .ok (.iconst 0, 1) := by decide +kernel
theorem dX7_ever_142 : decode cX7_ever 142 = .ok (.aaload, 1) := by decide +kernel
theorem dX7_ever_143 : decode cX7_ever 143 = .ok (.sipush 1000, 3) := by decide +kernel
theorem dX7_ever_146 : decode cX7_ever 146 = .ok (.iload_n 3, 1) := by decide +kernel
theorem dX7_ever_147 : decode cX7_ever 147 = .ok (.isub, 1) := by decide +kernel
theorem dX7_ever_148 : decode cX7_ever 148 = .ok (.iconst 0, 1) := by decide +kernel
theorem dX7_ever_149 : decode cX7_ever 149 = .ok (.invokestatic 151, 3) := by decide +kernel
theorem dX7_ever_152 : decode cX7_ever 152 = .ok (.iconst 0, 1) := by decide +kernel
theorem dX7_ever_153 : decode cX7_ever 153 = .ok (.istore 4, 2) := by decide +kernel
theorem dX7_ever_155 : decode cX7_ever 155 = .ok (.iload 4, 2) := by decide +kernel
theorem dX7_ever_157 : decode cX7_ever 157 = .ok (.iload_n 1, 1) := by decide +kernel
theorem dX7_ever_158 : decode cX7_ever 158 = .ok (.if_icmp .ge 159, 3) := by decide +kernel
theorem dX7_ever_161 : decode cX7_ever 161 = .ok (.aload_n 0, 1) := by decide +kernel
theorem dX7_ever_162 : decode cX7_ever 162 = .ok (.getfield 52, 3) := by decide +kernel
theorem dX7_ever_165 : decode cX7_ever 165 = .ok (.iload 4, 2) := by decide +kernel
theorem dX7_ever_167 : decode cX7_ever 167 = .ok (.iconst 1, 1) := by decide +kernel
theorem dX7_ever_168 : decode cX7_ever 168 = .ok (.iadd, 1) := by decide +kernel
theorem dX7_ever_169 : decode cX7_ever 169 = .ok (.aaload, 1) := by decide +kernel
theorem dX7_ever_170 : decode cX7_ever 170 = .ok (.invokestatic 112, 3) := by decide +kernel
theorem dX7_ever_173 : decode cX7_ever 173 = .ok (.aload_n 0, 1) := by decide +kernel
theorem dX7_ever_174 : decode cX7_ever 174 = .ok (.aload_n 0, 1) := by decide +kernel
theorem dX7_ever_175 : decode cX7_ever 175 = .ok (.getfield 52, 3) := by decide +kernel
theorem dX7_ever_178 : decode cX7_ever 178 = .ok (.iload 4, 2) := by decide +kernel
theorem dX7_ever_180 : decode cX7_ever 180 = .ok (.iconst 1, 1) := by decide +kernel
theorem dX7_ever_181 : decode cX7_ever 181 = .ok (.iadd, 1) := by decide +kernel
theorem dX7_ever_182 : decode cX7_ever 182 = .ok (.aaload, 1) := by decide +kernel
theorem dX7_ever_183 : decode cX7_ever 183 = .ok (.aload_n 0, 1) := by decide +kernel
theorem dX7_ever_184 : decode cX7_ever 184 = .ok (.getfield 52, 3) := by decide +kernel
theorem dX7_ever_187 : decode cX7_ever 187 = .ok (.iload 4, 2) := by decide +kernel
theorem dX7_ever_189 : decode cX7_ever 189 = .ok (.aaload, 1) := by decide +kernel
theorem dX7_ever_190 : decode cX7_ever 190 = .ok (.sipush 1000, 3) := by decide +kernel
theorem dX7_ever_193 : decode cX7_ever 193 = .ok (.iconst 0, 1) := by decide +kernel
theorem dX7_ever_194 : decode cX7_ever 194 = .ok (.invokevirtual 120, 3) := by decide +kernel
theorem dX7_ever_197 : decode cX7_ever 197 = .ok (.iconst 1, 1) := by decide +kernel
theorem dX7_ever_198 : decode cX7_ever 198 = .ok (.istore 5, 2) := by decide +kernel
theorem dX7_ever_200 : decode cX7_ever 200 = .ok (.iload 5, 2) := by decide +kernel
theorem dX7_ever_202 : decode cX7_ever 202 = .ok (.iload 4, 2) := by decide +kernel
theorem dX7_ever_204 : decode cX7_ever 204 = .ok (.iconst 1, 1) := by decide +kernel
theorem dX7_ever_205 : decode cX7_ever 205 = .ok (.iadd, 1) := by decide +kernel
theorem dX7_ever_206 : decode cX7_ever 206 = .ok (.if_icmp .gt 105, 3) := by decide +kernel
theorem dX7_ever_209 : decode cX7_ever 209 = .ok (.iload 5, 2) := by decide +kernel
theorem dX7_ever_211 : decode cX7_ever 211 = .ok (.bipush 21, 2) := by decide +kernel
theorem dX7_ever_213 : decode cX7_ever 213 = .ok (.if_icmp .ge 98, 3) := by decide +kernel
theorem dX7_ever_216 : decode cX7_ever 216 = .ok (.aload_n 0, 1) := by decide +kernel
theorem dX7_ever_217 : decode cX7_ever 217 = .ok (.getfield 11, 3) := by decide +kernel
theorem dX7_ever_220 : decode cX7_ever 220 = .ok (.iload_n 2, 1) := by decide +kernel
theorem dX7_ever_221 : decode cX7_ever 221 = .ok (.aaload, 1) := by decide +kernel
theorem dX7_ever_222 : decode cX7_ever 222 = .ok (.iload 5, 2) := by decide +kernel
theorem dX7_ever_224 : decode cX7_ever 224 = .ok (.iaload, 1) := by decide +kernel
theorem dX7_ever_225 : decode cX7_ever 225 = .ok (.ifCond .ne 6, 3) := by decide +kernel
theorem dX7_ever_228 : decode cX7_ever 228 = .ok (.goto 77, 3) := by decide +kernel
theorem dX7_ever_231 : decode cX7_ever 231 = .ok (.aload_n 0, 1) := by decide +kernel
theorem dX7_ever_232 : decode cX7_ever 232 = .ok (.aload_n 0, 1) := by decide +kernel
theorem dX7_ever_233 : decode cX7_ever 233 = .ok (.getfield 52, 3) := by decide +kernel
theorem dX7_ever_236 : decode cX7_ever 236 = .ok (.iload 4, 2) := by decide +kernel
theorem dX7_ever_238 : decode cX7_ever 238 = .ok (.iconst 1, 1) := by decide +kernel
theorem dX7_ever_239 : decode cX7_ever 239 = .ok (.iadd, 1) := by decide +kernel
theorem dX7_ever_240 : decode cX7_ever 240 = .ok (.iload 5, 2) := by decide +kernel
theorem dX7_ever_242 : decode cX7_ever 242 = .ok (.isub, 1) := by decide +kernel
theorem dX7_ever_243 : decode cX7_ever 243 = .ok (.aaload, 1) := by decide +kernel
theorem dX7_ever_244 : decode cX7_ever 244 = .ok (.aload_n 0, 1) := by decide +kernel
theorem dX7_ever_245 : decode cX7_ever 245 = .ok (.getfield 55, 3) := by decide +kernel
theorem dX7_ever_248 : decode cX7_ever 248 = .ok (.iload 5, 2) := by decide +kernel
theorem dX7_ever_250 : decode cX7_ever 250 = .ok (.iconst 1, 1) := by decide +kernel
theorem dX7_ever_251 : decode cX7_ever 251 = .ok (.isub, 1) := by decide +kernel
theorem dX7_ever_252 : decode cX7_ever 252 = .ok (.aaload, 1) := by decide +kernel
theorem dX7_ever_253 : decode cX7_ever 253 = .ok (.aload_n 0, 1) := by decide +kernel
theorem dX7_ever_254 : decode cX7_ever 254 = .ok (.getfield 58, 3) := by decide +kernel
theorem dX7_ever_257 : decode cX7_ever 257 = .ok (.invokevirtual 159, 3) := by decide +kernel
theorem dX7_ever_260 : decode cX7_ever 260 = .ok (.aload_n 0, 1) := by decide +kernel
theorem dX7_ever_261 : decode cX7_ever 261 = .ok (.getfield 61, 3) := by decide +kernel
theorem dX7_ever_264 : decode cX7_ever 264 = .ok (.invokestatic 112, 3) := by decide +kernel
theorem dX7_ever_267 : decode cX7_ever 267 = .ok (.aload_n 0, 1) := by decide +kernel
theorem dX7_ever_268 : decode cX7_ever 268 = .ok (.aload_n 0, 1) := by decide +kernel
theorem dX7_ever_269 : decode cX7_ever 269 = .ok (.getfield 61, 3) := by decide +kernel
theorem dX7_ever_272 : decode cX7_ever 272 = .ok (.aload_n 0, 1) := by decide +kernel
theorem dX7_ever_273 : decode cX7_ever 273 = .ok (.getfield 58, 3) := by decide +kernel
theorem dX7_ever_276 : decode cX7_ever 276 = .ok (.aload_n 0, 1) := by decide +kernel
theorem dX7_ever_277 : decode cX7_ever 277 = .ok (.getfield 11, 3) := by decide +kernel
theorem dX7_ever_280 : decode cX7_ever 280 = .ok (.iload_n 2, 1) := by decide +kernel
theorem dX7_ever_281 : decode cX7_ever 281 = .ok (.aaload, 1) := by decide +kernel
theorem dX7_ever_282 : decode cX7_ever 282 = .ok (.iload 5, 2) := by decide +kernel
theorem dX7_ever_284 : decode cX7_ever 284 = .ok (.iaload, 1) := by decide +kernel
theorem dX7_ever_285 : decode cX7_ever 285 = .ok (.iconst 0, 1) := by decide +kernel
theorem dX7_ever_286 : decode cX7_ever 286 = .ok (.invokevirtual 120, 3) := by decide +kernel
theorem dX7_ever_289 : decode cX7_ever 289 = .ok (.aload_n 0, 1) := by decide +kernel
theorem dX7_ever_290 : decode cX7_ever 290 = .ok (.getfield 52, 3) := by decide +kernel
theorem dX7_ever_293 : decode cX7_ever 293 = .ok (.iload 4, 2) := by decide +kernel
theorem dX7_ever_295 : decode cX7_ever 295 = .ok (.iconst 1, 1) := by decide +kernel
theorem dX7_ever_296 : decode cX7_ever 296 = .ok (.iadd, 1) := by decide +kernel
theorem dX7_ever_297 : decode cX7_ever 297 = .ok (.aaload, 1) := by decide +kernel
theorem dX7_ever_298 : decode cX7_ever 298 = .ok (.aload_n 0, 1) := by decide +kernel
theorem dX7_ever_299 : decode cX7_ever 299 = .ok (.getfield 61, 3) := by decide +kernel
theorem dX7_ever_302 : decode cX7_ever 302 = .ok (.invokestatic 163, 3) := by decide +kernel
theorem dX7_ever_305 : decode cX7_ever 305 = .ok (.iinc 5 1, 3) := by decide +kernel
theorem dX7_ever_308 : decode cX7_ever 308 = .ok (.goto (-108), 3) := by decide +kernel
theorem dX7_ever_311 : decode cX7_ever 311 = .ok (.iinc 4 1, 3) := by decide +kernel
theorem dX7_ever_314 : decode cX7_ever 314 = .ok (.goto (-159), 3) := by decide +kernel
theorem dX7_ever_317 : decode cX7_ever 317 = .ok (.aload_n 0, 1) := by decide +kernel
theorem dX7_ever_318 : decode cX7_ever 318 = .ok (.getfield 55, 3) := by decide +kernel
theorem dX7_ever_321 : decode cX7_ever 321 = .ok (.iload_n 1, 1) := by decide +kernel
theorem dX7_ever_322 : decode cX7_ever 322 = .ok (.iconst 1, 1) := by decide +kernel
theorem dX7_ever_323 : decode cX7_ever 323 = .ok (.iadd, 1) := by decide +kernel
theorem dX7_ever_324 : decode cX7_ever 324 = .ok (.aaload, 1) := by decide +kernel
theorem dX7_ever_325 : decode cX7_ever 325 = .ok (.aload_n 0, 1) := by decide +kernel
theorem dX7_ever_326 : decode cX7_ever 326 = .ok (.getfield 61, 3) := by decide +kernel
theorem dX7_ever_329 : decode cX7_ever 329 = .ok (.invokestatic 124, 3) := by decide +kernel
theorem dX7_ever_332 : decode cX7_ever 332 = .ok (.aload_n 0, 1) := by decide +kernel
theorem dX7_ever_333 : decode cX7_ever 333 = .ok (.getfield 61, 3) := by decide +kernel
theorem dX7_ever_336 : decode cX7_ever 336 = .ok (.aload_n 0, 1) := by decide +kernel
theorem dX7_ever_337 : decode cX7_ever 337 = .ok (.getfield 52, 3) := by decide +kernel
theorem dX7_ever_340 : decode cX7_ever 340 = .ok (.iload_n 1, 1) := by decide +kernel
theorem dX7_ever_341 : decode cX7_ever 341 = .ok (.aaload, 1) := by decide +kernel
theorem dX7_ever_342 : decode cX7_ever 342 = .ok (.invokestatic 163, 3) := by decide +kernel
theorem dX7_ever_345 : decode cX7_ever 345 = .ok (.bipush 9, 2) := by decide +kernel
theorem dX7_ever_347 : decode cX7_ever 347 = .ok (.istore 4, 2) := by decide +kernel
theorem dX7_ever_349 : decode cX7_ever 349 = .ok (.iload 4, 2) := by decide +kernel
theorem dX7_ever_351 : decode cX7_ever 351 = .ok (.ifCond .lt 171, 3) := by decide +kernel
theorem dX7_ever_354 : decode cX7_ever 354 = .ok (.aload_n 0, 1) := by decide +kernel
theorem dX7_ever_355 : decode cX7_ever 355 = .ok (.getfield 58, 3) := by decide +kernel
theorem dX7_ever_358 : decode cX7_ever 358 = .ok (.invokestatic 112, 3) := by decide +kernel
theorem dX7_ever_361 : decode cX7_ever 361 = .ok (.aload_n 0, 1) := by decide +kernel
theorem dX7_ever_362 : decode cX7_ever 362 = .ok (.aload_n 0, 1) := by decide +kernel
theorem dX7_ever_363 : decode cX7_ever 363 = .ok (.getfield 58, 3) := by decide +kernel
theorem dX7_ever_366 : decode cX7_ever 366 = .ok (.aload_n 0, 1) := by decide +kernel
theorem dX7_ever_367 : decode cX7_ever 367 = .ok (.getfield 61, 3) := by decide +kernel
theorem dX7_ever_370 : decode cX7_ever 370 = .ok (.sipush 1000, 3) := by decide +kernel
theorem dX7_ever_373 : decode cX7_ever 373 = .ok (.iconst 0, 1) := by decide +kernel
theorem dX7_ever_374 : decode cX7_ever 374 = .ok (.invokevirtual 120, 3) := by decide +kernel
theorem dX7_ever_377 : decode cX7_ever 377 = .ok (.iconst 0, 1) := by decide +kernel
theorem dX7_ever_378 : decode cX7_ever 378 = .ok (.istore 5, 2) := by decide +kernel
theorem dX7_ever_380 : decode cX7_ever 380 = .ok (.sipush 999, 3) := by decide +kernel
theorem dX7_ever_383 : decode cX7_ever 383 = .ok (.istore 6, 2) := by decide +kernel
theorem dX7_ever_385 : decode cX7_ever 385 = .ok (.iload 5, 2) := by decide +kernel
theorem dX7_ever_387 : decode cX7_ever 387 = .ok (.iload 6, 2) := by decide +kernel
theorem dX7_ever_389 : decode cX7_ever 389 = .ok (.if_icmp .ge 70, 3) := by decide +kernel
theorem dX7_ever_392 : decode cX7_ever 392 = .ok (.iload 5, 2) := by decide +kernel
theorem dX7_ever_394 : decode cX7_ever 394 = .ok (.iload 6, 2) := by decide +kernel
theorem dX7_ever_396 : decode cX7_ever 396 = .ok (.iadd, 1) := by decide +kernel
theorem dX7_ever_397 : decode cX7_ever 397 = .ok (.iconst 1, 1) := by decide +kernel
theorem dX7_ever_398 : decode cX7_ever 398 = .ok (.iadd, 1) := by decide +kernel
theorem dX7_ever_399 : decode cX7_ever 399 = .ok (.iconst 2, 1) := by decide +kernel
theorem dX7_ever_400 : decode cX7_ever 400 = .ok (.idiv, 1) := by decide +kernel
theorem dX7_ever_401 : decode cX7_ever 401 = .ok (.istore 7, 2) := by decide +kernel
theorem dX7_ever_403 : decode cX7_ever 403 = .ok (.aload_n 0, 1) := by decide +kernel
theorem dX7_ever_404 : decode cX7_ever 404 = .ok (.getfield 46, 3) := by decide +kernel
theorem dX7_ever_407 : decode cX7_ever 407 = .ok (.invokestatic 112, 3) := by decide +kernel
theorem dX7_ever_410 : decode cX7_ever 410 = .ok (.aload_n 0, 1) := by decide +kernel
theorem dX7_ever_411 : decode cX7_ever 411 = .ok (.aload_n 0, 1) := by decide +kernel
theorem dX7_ever_412 : decode cX7_ever 412 = .ok (.getfield 46, 3) := by decide +kernel
theorem dX7_ever_415 : decode cX7_ever 415 = .ok (.aload_n 0, 1) := by decide +kernel
theorem dX7_ever_416 : decode cX7_ever 416 = .ok (.getfield 55, 3) := by decide +kernel
theorem dX7_ever_419 : decode cX7_ever 419 = .ok (.iload_n 1, 1) := by decide +kernel
theorem dX7_ever_420 : decode cX7_ever 420 = .ok (.iconst 1, 1) := by decide +kernel
theorem dX7_ever_421 : decode cX7_ever 421 = .ok (.iadd, 1) := by decide +kernel
theorem dX7_ever_422 : decode cX7_ever 422 = .ok (.aaload, 1) := by decide +kernel
theorem dX7_ever_423 : decode cX7_ever 423 = .ok (.iload 7, 2) := by decide +kernel
theorem dX7_ever_425 : decode cX7_ever 425 = .ok (.iconst 0, 1) := by decide +kernel
theorem dX7_ever_426 : decode cX7_ever 426 = .ok (.invokevirtual 120, 3) := by decide +kernel
theorem dX7_ever_429 : decode cX7_ever 429 = .ok (.aload_n 0, 1) := by decide +kernel
theorem dX7_ever_430 : decode cX7_ever 430 = .ok (.getfield 46, 3) := by decide +kernel
theorem dX7_ever_433 : decode cX7_ever 433 = .ok (.aload_n 0, 1) := by decide +kernel
theorem dX7_ever_434 : decode cX7_ever 434 = .ok (.getfield 58, 3) := by decide +kernel
theorem dX7_ever_437 : decode cX7_ever 437 = .ok (.invokestatic 155, 3) := by decide +kernel
theorem dX7_ever_440 : decode cX7_ever 440 = .ok (.ifCond .gt 10, 3) := by decide +kernel
theorem dX7_ever_443 : decode cX7_ever 443 = .ok (.iload 7, 2) := by decide +kernel
theorem dX7_ever_445 : decode cX7_ever 445 = .ok (.istore 5, 2) := by decide +kernel
theorem dX7_ever_447 : decode cX7_ever 447 = .ok (.goto 9, 3) := by decide +kernel
theorem dX7_ever_450 : decode cX7_ever 450 = .ok (.iload 7, 2) := by decide +kernel
theorem dX7_ever_452 : decode cX7_ever 452 = .ok (.iconst 1, 1) := by decide +kernel
theorem dX7_ever_453 : decode cX7_ever 453 = .ok (.isub, 1) := by decide +kernel
theorem dX7_ever_454 : decode cX7_ever 454 = .ok (.istore 6, 2) := by decide +kernel
theorem dX7_ever_456 : decode cX7_ever 456 = .ok (.goto (-71), 3) := by decide +kernel
theorem dX7_ever_459 : decode cX7_ever 459 = .ok (.aload_n 0, 1) := by decide +kernel
theorem dX7_ever_460 : decode cX7_ever 460 = .ok (.getfield 14, 3) := by decide +kernel
theorem dX7_ever_463 : decode cX7_ever 463 = .ok (.iload 4, 2) := by decide +kernel
theorem dX7_ever_465 : decode cX7_ever 465 = .ok (.iload 5, 2) := by decide +kernel
theorem dX7_ever_467 : decode cX7_ever 467 = .ok (.iastore, 1) := by decide +kernel
theorem dX7_ever_468 : decode cX7_ever 468 = .ok (.aload_n 0, 1) := by decide +kernel
theorem dX7_ever_469 : decode cX7_ever 469 = .ok (.getfield 46, 3) := by decide +kernel
theorem dX7_ever_472 : decode cX7_ever 472 = .ok (.invokestatic 112, 3) := by decide +kernel
theorem dX7_ever_475 : decode cX7_ever 475 = .ok (.aload_n 0, 1) := by decide +kernel
theorem dX7_ever_476 : decode cX7_ever 476 = .ok (.aload_n 0, 1) := by decide +kernel
theorem dX7_ever_477 : decode cX7_ever 477 = .ok (.getfield 46, 3) := by decide +kernel
theorem dX7_ever_480 : decode cX7_ever 480 = .ok (.aload_n 0, 1) := by decide +kernel
theorem dX7_ever_481 : decode cX7_ever 481 = .ok (.getfield 55, 3) := by decide +kernel
theorem dX7_ever_484 : decode cX7_ever 484 = .ok (.iload_n 1, 1) := by decide +kernel
theorem dX7_ever_485 : decode cX7_ever 485 = .ok (.iconst 1, 1) := by decide +kernel
theorem dX7_ever_486 : decode cX7_ever 486 = .ok (.iadd, 1) := by decide +kernel
theorem dX7_ever_487 : decode cX7_ever 487 = .ok (.aaload, 1) := by decide +kernel
theorem dX7_ever_488 : decode cX7_ever 488 = .ok (.iload 5, 2) := by decide +kernel
theorem dX7_ever_490 : decode cX7_ever 490 = .ok (.iconst 0, 1) := by decide +kernel
theorem dX7_ever_491 : decode cX7_ever 491 = .ok (.invokevirtual 120, 3) := by decide +kernel
theorem dX7_ever_494 : decode cX7_ever 494 = .ok (.aload_n 0, 1) := by decide +kernel
theorem dX7_ever_495 : decode cX7_ever 495 = .ok (.getfield 58, 3) := by decide +kernel
theorem dX7_ever_498 : decode cX7_ever 498 = .ok (.aload_n 0, 1) := by decide +kernel
theorem dX7_ever_499 : decode cX7_ever 499 = .ok (.getfield 46, 3) := by decide +kernel
theorem dX7_ever_502 : decode cX7_ever 502 = .ok (.invokestatic 163, 3) := by decide +kernel
theorem dX7_ever_505 : decode cX7_ever 505 = .ok (.aload_n 0, 1) := by decide +kernel
theorem dX7_ever_506 : decode cX7_ever 506 = .ok (.getfield 58, 3) := by decide +kernel
theorem dX7_ever_509 : decode cX7_ever 509 = .ok (.aload_n 0, 1) := by decide +kernel
theorem dX7_ever_510 : decode cX7_ever 510 = .ok (.getfield 61, 3) := by decide +kernel
theorem dX7_ever_513 : decode cX7_ever 513 = .ok (.invokestatic 124, 3) := by decide +kernel
theorem dX7_ever_516 : decode cX7_ever 516 = .ok (.iinc 4 (-1), 3) := by decide +kernel
theorem dX7_ever_519 : decode cX7_ever 519 = .ok (.goto (-170), 3) := by decide +kernel
theorem dX7_ever_522 : decode cX7_ever 522 = .ok (.iconst 1, 1) := by decide +kernel
theorem dX7_ever_523 : decode cX7_ever 523 = .ok (.ireturn, 1) := by decide +kernel
theorem dX7_pays_0 : decode cX7_pays 0 = .ok (.iconst 0, 1) := by decide +kernel
theorem dX7_pays_1 : decode cX7_pays 1 = .ok (.istore_n 3, 1) := by decide +kernel
theorem dX7_pays_2 : decode cX7_pays 2 = .ok (.aload_n 0, 1) := by decide +kernel
theorem dX7_pays_3 : decode cX7_pays 3 = .ok (.getfield 67, 3) := by decide +kernel
theorem dX7_pays_6 : decode cX7_pays 6 = .ok (.iload_n 1, 1) := by decide +kernel
theorem dX7_pays_7 : decode cX7_pays 7 = .ok (.aaload, 1) := by decide +kernel
theorem dX7_pays_8 : decode cX7_pays 8 = .ok (.aload_n 0, 1) := by decide +kernel
theorem dX7_pays_9 : decode cX7_pays 9 = .ok (.getfield 70, 3) := by decide +kernel
theorem dX7_pays_12 : decode cX7_pays 12 = .ok (.invokestatic 124, 3) := by decide +kernel
theorem dX7_pays_15 : decode cX7_pays 15 = .ok (.iconst 1, 1) := by decide +kernel
theorem dX7_pays_16 : decode cX7_pays 16 = .ok (.istore 4, 2) := by decide +kernel
theorem dX7_pays_18 : decode cX7_pays 18 = .ok (.iload 4, 2) := by decide +kernel
theorem dX7_pays_20 : decode cX7_pays 20 = .ok (.iload_n 1, 1) := by decide +kernel
theorem dX7_pays_21 : decode cX7_pays 21 = .ok (.if_icmp .gt 71, 3) := by decide +kernel
theorem dX7_pays_24 : decode cX7_pays 24 = .ok (.aload_n 0, 1) := by decide +kernel
theorem dX7_pays_25 : decode cX7_pays 25 = .ok (.getfield 73, 3) := by decide +kernel
theorem dX7_pays_28 : decode cX7_pays 28 = .ok (.iload 4, 2) := by decide +kernel
theorem dX7_pays_30 : decode cX7_pays 30 = .ok (.iconst 2, 1) := by decide +kernel
theorem dX7_pays_31 : decode cX7_pays 31 = .ok (.iload_n 2, 1) := by decide +kernel
theorem dX7_pays_32 : decode cX7_pays 32 = .ok (.imul, 1) := by decide +kernel
theorem dX7_pays_33 : decode cX7_pays 33 = .ok (.invokestatic 151, 3) := by decide +kernel
theorem dX7_pays_36 : decode cX7_pays 36 = .ok (.aload_n 0, 1) := by decide +kernel
theorem dX7_pays_37 : decode cX7_pays 37 = .ok (.aload_n 0, 1) := by decide +kernel
theorem dX7_pays_38 : decode cX7_pays 38 = .ok (.getfield 73, 3) := by decide +kernel
theorem dX7_pays_41 : decode cX7_pays 41 = .ok (.aload_n 0, 1) := by decide +kernel
theorem dX7_pays_42 : decode cX7_pays 42 = .ok (.getfield 67, 3) := by decide +kernel
theorem dX7_pays_45 : decode cX7_pays 45 = .ok (.iload_n 1, 1) := by decide +kernel
theorem dX7_pays_46 : decode cX7_pays 46 = .ok (.iload 4, 2) := by decide +kernel
theorem dX7_pays_48 : decode cX7_pays 48 = .ok (.isub, 1) := by decide +kernel
theorem dX7_pays_49 : decode cX7_pays 49 = .ok (.aaload, 1) := by decide +kernel
theorem dX7_pays_50 : decode cX7_pays 50 = .ok (.iconst 1, 1) := by decide +kernel
theorem dX7_pays_51 : decode cX7_pays 51 = .ok (.iconst 0, 1) := by decide +kernel
theorem dX7_pays_52 : decode cX7_pays 52 = .ok (.invokevirtual 120, 3) := by decide +kernel
theorem dX7_pays_55 : decode cX7_pays 55 = .ok (.aload_n 0, 1) := by decide +kernel
theorem dX7_pays_56 : decode cX7_pays 56 = .ok (.getfield 73, 3) := by decide +kernel
theorem dX7_pays_59 : decode cX7_pays 59 = .ok (.aload_n 0, 1) := by decide +kernel
theorem dX7_pays_60 : decode cX7_pays 60 = .ok (.getfield 70, 3) := by decide +kernel
theorem dX7_pays_63 : decode cX7_pays 63 = .ok (.invokestatic 155, 3) := by decide +kernel
theorem dX7_pays_66 : decode cX7_pays 66 = .ok (.ifCond .gt 6, 3) := by decide +kernel
theorem dX7_pays_69 : decode cX7_pays 69 = .ok (.goto 17, 3) := by decide +kernel
theorem dX7_pays_72 : decode cX7_pays 72 = .ok (.aload_n 0, 1) := by decide +kernel
theorem dX7_pays_73 : decode cX7_pays 73 = .ok (.getfield 73, 3) := by decide +kernel
theorem dX7_pays_76 : decode cX7_pays 76 = .ok (.aload_n 0, 1) := by decide +kernel
theorem dX7_pays_77 : decode cX7_pays 77 = .ok (.getfield 70, 3) := by decide +kernel
theorem dX7_pays_80 : decode cX7_pays 80 = .ok (.invokestatic 124, 3) := by decide +kernel
theorem dX7_pays_83 : decode cX7_pays 83 = .ok (.iload 4, 2) := by decide +kernel
theorem dX7_pays_85 : decode cX7_pays 85 = .ok (.istore_n 3, 1) := by decide +kernel
theorem dX7_pays_86 : decode cX7_pays 86 = .ok (.iinc 4 1, 3) := by decide +kernel
theorem dX7_pays_89 : decode cX7_pays 89 = .ok (.goto (-71), 3) := by decide +kernel
theorem dX7_pays_92 : decode cX7_pays 92 = .ok (.iload_n 3, 1) := by decide +kernel
theorem dX7_pays_93 : decode cX7_pays 93 = .ok (.ireturn, 1) := by decide +kernel
theorem dX7_worth_0 : decode cX7_worth 0 = .ok (.iload_n 1, 1) := by decide +kernel
theorem dX7_worth_1 : decode cX7_worth 1 = .ok (.iconst 0, 1) := by decide +kernel
theorem dX7_worth_2 : decode cX7_worth 2 = .ok (.bipush 60, 2) := by decide +kernel
theorem dX7_worth_4 : decode cX7_worth 4 = .ok (.invokestatic 80, 3) := by decide +kernel
theorem dX7_worth_7 : decode cX7_worth 7 = .ok (.ifCond .eq 44, 3) := by decide +kernel
theorem dX7_worth_10 : decode cX7_worth 10 = .ok (.iload_n 2, 1) := by decide +kernel
theorem dX7_worth_11 : decode cX7_worth 11 = .ok (.iconst 0, 1) := by decide +kernel
theorem dX7_worth_12 : decode cX7_worth 12 = .ok (.bipush 20, 2) := by decide +kernel
theorem dX7_worth_14 : decode cX7_worth 14 = .ok (.invokestatic 80, 3) := by decide +kernel
theorem dX7_worth_17 : decode cX7_worth 17 = .ok (.ifCond .eq 34, 3) := by decide +kernel
theorem dX7_worth_20 : decode cX7_worth 20 = .ok (.aload_n 0, 1) := by decide +kernel
theorem dX7_worth_21 : decode cX7_worth 21 = .ok (.iload_n 3, 1) := by decide +kernel
theorem dX7_worth_22 : decode cX7_worth 22 = .ok (.invokevirtual 88, 3) := by decide +kernel
theorem dX7_worth_25 : decode cX7_worth 25 = .ok (.ifCond .eq 26, 3) := by decide +kernel
theorem dX7_worth_28 : decode cX7_worth 28 = .ok (.iload 4, 2) := by decide +kernel
theorem dX7_worth_30 : decode cX7_worth 30 = .ok (.iconst 0, 1) := by decide +kernel
theorem dX7_worth_31 : decode cX7_worth 31 = .ok (.sipush 1000, 3) := by decide +kernel
theorem dX7_worth_34 : decode cX7_worth 34 = .ok (.invokestatic 80, 3) := by decide +kernel
theorem dX7_worth_37 : decode cX7_worth 37 = .ok (.ifCond .eq 14, 3) := by decide +kernel
theorem dX7_worth_40 : decode cX7_worth 40 = .ok (.iload 5, 2) := by decide +kernel
theorem dX7_worth_42 : decode cX7_worth 42 = .ok (.iconst 0, 1) := by decide +kernel
theorem dX7_worth_43 : decode cX7_worth 43 = .ok (.bipush 6, 2) := by decide +kernel
theorem dX7_worth_45 : decode cX7_worth 45 = .ok (.invokestatic 80, 3) := by decide +kernel
theorem dX7_worth_48 : decode cX7_worth 48 = .ok (.ifCond .ne 5, 3) := by decide +kernel
theorem dX7_worth_51 : decode cX7_worth 51 = .ok (.iconst (-1), 1) := by decide +kernel
theorem dX7_worth_52 : decode cX7_worth 52 = .ok (.ireturn, 1) := by decide +kernel
theorem dX7_worth_53 : decode cX7_worth 53 = .ok (.iload_n 1, 1) := by decide +kernel
theorem dX7_worth_54 : decode cX7_worth 54 = .ok (.istore 6, 2) := by decide +kernel
theorem dX7_worth_56 : decode cX7_worth 56 = .ok (.iconst 0, 1) := by decide +kernel
theorem dX7_worth_57 : decode cX7_worth 57 = .ok (.istore 7, 2) := by decide +kernel
theorem dX7_worth_59 : decode cX7_worth 59 = .ok (.iload 7, 2) := by decide +kernel
theorem dX7_worth_61 : decode cX7_worth 61 = .ok (.sipush 181, 3) := by decide +kernel
theorem dX7_worth_64 : decode cX7_worth 64 = .ok (.if_icmp .ge 22, 3) := by decide +kernel
theorem dX7_worth_67 : decode cX7_worth 67 = .ok (.aload_n 0, 1) := by decide +kernel
theorem dX7_worth_68 : decode cX7_worth 68 = .ok (.getfield 64, 3) := by decide +kernel
theorem dX7_worth_71 : decode cX7_worth 71 = .ok (.iload 7, 2) := by decide +kernel
theorem dX7_worth_73 : decode cX7_worth 73 = .ok (.aaload, 1) := by decide +kernel
theorem dX7_worth_74 : decode cX7_worth 74 = .ok (.iload 7, 2) := by decide +kernel
theorem dX7_worth_76 : decode cX7_worth 76 = .ok (.iconst 0, 1) := by decide +kernel
theorem dX7_worth_77 : decode cX7_worth 77 = .ok (.invokestatic 151, 3) := by decide +kernel
theorem dX7_worth_80 : decode cX7_worth 80 = .ok (.iinc 7 1, 3) := by decide +kernel
theorem dX7_worth_83 : decode cX7_worth 83 = .ok (.goto (-24), 3) := by decide +kernel
theorem dX7_worth_86 : decode cX7_worth 86 = .ok (.iconst 1, 1) := by decide +kernel
theorem dX7_worth_87 : decode cX7_worth 87 = .ok (.istore 7, 2) := by decide +kernel
theorem dX7_worth_89 : decode cX7_worth 89 = .ok (.iload 7, 2) := by decide +kernel
theorem dX7_worth_91 : decode cX7_worth 91 = .ok (.iload 5, 2) := by decide +kernel
theorem dX7_worth_93 : decode cX7_worth 93 = .ok (.if_icmp .gt 176, 3) := by decide +kernel
theorem dX7_worth_96 : decode cX7_worth 96 = .ok (.iload_n 1, 1) := by decide +kernel
theorem dX7_worth_97 : decode cX7_worth 97 = .ok (.iload_n 2, 1) := by decide +kernel
theorem dX7_worth_98 : decode cX7_worth 98 = .ok (.iload 5, 2) := by decide +kernel
theorem dX7_worth_100 : decode cX7_worth 100 = .ok (.iload 7, 2) := by decide +kernel
theorem dX7_worth_102 : decode cX7_worth 102 = .ok (.isub, 1) := by decide +kernel
theorem dX7_worth_103 : decode cX7_worth 103 = .ok (.imul, 1) := by decide +kernel
theorem dX7_worth_104 : decode cX7_worth 104 = .ok (.iadd, 1) := by decide +kernel
theorem dX7_worth_105 : decode cX7_worth 105 = .ok (.istore 8, 2) := by decide +kernel
theorem dX7_worth_107 : decode cX7_worth 107 = .ok (.iconst 0, 1) := by decide +kernel
theorem dX7_worth_108 : decode cX7_worth 108 = .ok (.istore 9, 2) := by decide +kernel
theorem dX7_worth_110 : decode cX7_worth 110 = .ok (.iload 9, 2) := by decide +kernel
theorem dX7_worth_112 : decode cX7_worth 112 = .ok (.iload 8, 2) := by decide +kernel
theorem dX7_worth_114 : decode cX7_worth 114 = .ok (.if_icmp .gt 99, 3) := by decide +kernel
theorem dX7_worth_117 : decode cX7_worth 117 = .ok (.aload_n 0, 1) := by decide +kernel
theorem dX7_worth_118 : decode cX7_worth 118 = .ok (.getfield 46, 3) := by decide +kernel
theorem dX7_worth_121 : decode cX7_worth 121 = .ok (.invokestatic 112, 3) := by decide +kernel
theorem dX7_worth_124 : decode cX7_worth 124 = .ok (.iconst 0, 1) := by decide +kernel
theorem dX7_worth_125 : decode cX7_worth 125 = .ok (.istore 10, 2) := by decide +kernel
theorem dX7_worth_127 : decode cX7_worth 127 = .ok (.iload 10, 2) := by decide +kernel
theorem dX7_worth_129 : decode cX7_worth 129 = .ok (.bipush 21, 2) := by decide +kernel
theorem dX7_worth_131 : decode cX7_worth 131 = .ok (.if_icmp .ge 48, 3) := by decide +kernel
theorem dX7_worth_134 : decode cX7_worth 134 = .ok (.iload 9, 2) := by decide +kernel
theorem dX7_worth_136 : decode cX7_worth 136 = .ok (.iload_n 2, 1) := by decide +kernel
theorem dX7_worth_137 : decode cX7_worth 137 = .ok (.iadd, 1) := by decide +kernel
theorem dX7_worth_138 : decode cX7_worth 138 = .ok (.iload 10, 2) := by decide +kernel
theorem dX7_worth_140 : decode cX7_worth 140 = .ok (.isub, 1) := by decide +kernel
theorem dX7_worth_141 : decode cX7_worth 141 = .ok (.istore 11, 2) := by decide +kernel
end
section
theorem dX7_worth_143 : decode cX7_worth 143 = .ok (.iload 11, 2) := by decide +kernel
theorem dX7_worth_145 : decode cX7_worth 145 = .ok (.ifCond .lt 28, 3) := by decide +kernel
theorem dX7_worth_148 : decode cX7_worth 148 = .ok (.aload_n 0, 1) := by decide +kernel
theorem dX7_worth_149 : decode cX7_worth 149 = .ok (.aload_n 0, 1) := by decide +kernel
theorem dX7_worth_150 : decode cX7_worth 150 = .ok (.getfield 46, 3) := by decide +kernel
theorem dX7_worth_153 : decode cX7_worth 153 = .ok (.aload_n 0, 1) := by decide +kernel
theorem dX7_worth_154 : decode cX7_worth 154 = .ok (.getfield 64, 3) := by decide +kernel
theorem dX7_worth_157 : decode cX7_worth 157 = .ok (.iload 11, 2) := by decide +kernel
theorem dX7_worth_159 : decode cX7_worth 159 = .ok (.aaload, 1) := by decide +kernel
theorem dX7_worth_160 : decode cX7_worth 160 = .ok (.aload_n 0, 1) := by decide +kernel
theorem dX7_worth_161 : decode cX7_worth 161 = .ok (.getfield 11, 3) := by decide +kernel
theorem dX7_worth_164 : decode cX7_worth 164 = .ok (.iload_n 3, 1) := by decide +kernel
theorem dX7_worth_165 : decode cX7_worth 165 = .ok (.aaload, 1) := by decide +kernel
theorem dX7_worth_166 : decode cX7_worth 166 = .ok (.iload 10, 2) := by decide +kernel
theorem dX7_worth_168 : decode cX7_worth 168 = .ok (.iaload, 1) := by decide +kernel
theorem dX7_worth_169 : decode cX7_worth 169 = .ok (.iconst 0, 1) := by decide +kernel
theorem dX7_worth_170 : decode cX7_worth 170 = .ok (.invokevirtual 120, 3) := by decide +kernel
theorem dX7_worth_173 : decode cX7_worth 173 = .ok (.iinc 10 1, 3) := by decide +kernel
theorem dX7_worth_176 : decode cX7_worth 176 = .ok (.goto (-49), 3) := by decide +kernel
theorem dX7_worth_179 : decode cX7_worth 179 = .ok (.aload_n 0, 1) := by decide +kernel
theorem dX7_worth_180 : decode cX7_worth 180 = .ok (.getfield 67, 3) := by decide +kernel
theorem dX7_worth_183 : decode cX7_worth 183 = .ok (.iload 9, 2) := by decide +kernel
theorem dX7_worth_185 : decode cX7_worth 185 = .ok (.aaload, 1) := by decide +kernel
theorem dX7_worth_186 : decode cX7_worth 186 = .ok (.invokestatic 112, 3) := by decide +kernel
theorem dX7_worth_189 : decode cX7_worth 189 = .ok (.aload_n 0, 1) := by decide +kernel
theorem dX7_worth_190 : decode cX7_worth 190 = .ok (.aload_n 0, 1) := by decide +kernel
theorem dX7_worth_191 : decode cX7_worth 191 = .ok (.getfield 67, 3) := by decide +kernel
theorem dX7_worth_194 : decode cX7_worth 194 = .ok (.iload 9, 2) := by decide +kernel
theorem dX7_worth_196 : decode cX7_worth 196 = .ok (.aaload, 1) := by decide +kernel
theorem dX7_worth_197 : decode cX7_worth 197 = .ok (.aload_n 0, 1) := by decide +kernel
theorem dX7_worth_198 : decode cX7_worth 198 = .ok (.getfield 46, 3) := by decide +kernel
theorem dX7_worth_201 : decode cX7_worth 201 = .ok (.iload 4, 2) := by decide +kernel
theorem dX7_worth_203 : decode cX7_worth 203 = .ok (.iconst 0, 1) := by decide +kernel
theorem dX7_worth_204 : decode cX7_worth 204 = .ok (.invokevirtual 120, 3) := by decide +kernel
theorem dX7_worth_207 : decode cX7_worth 207 = .ok (.iinc 9 1, 3) := by decide +kernel
theorem dX7_worth_210 : decode cX7_worth 210 = .ok (.goto (-100), 3) := by decide +kernel
theorem dX7_worth_213 : decode cX7_worth 213 = .ok (.iconst 0, 1) := by decide +kernel
theorem dX7_worth_214 : decode cX7_worth 214 = .ok (.istore 9, 2) := by decide +kernel
theorem dX7_worth_216 : decode cX7_worth 216 = .ok (.iload 9, 2) := by decide +kernel
theorem dX7_worth_218 : decode cX7_worth 218 = .ok (.iload 8, 2) := by decide +kernel
theorem dX7_worth_220 : decode cX7_worth 220 = .ok (.if_icmp .gt 43, 3) := by decide +kernel
theorem dX7_worth_223 : decode cX7_worth 223 = .ok (.aload_n 0, 1) := by decide +kernel
theorem dX7_worth_224 : decode cX7_worth 224 = .ok (.iload 9, 2) := by decide +kernel
theorem dX7_worth_226 : decode cX7_worth 226 = .ok (.iload 7, 2) := by decide +kernel
theorem dX7_worth_228 : decode cX7_worth 228 = .ok (.invokevirtual 166, 3) := by decide +kernel
theorem dX7_worth_231 : decode cX7_worth 231 = .ok (.istore 10, 2) := by decide +kernel
theorem dX7_worth_233 : decode cX7_worth 233 = .ok (.aload_n 0, 1) := by decide +kernel
theorem dX7_worth_234 : decode cX7_worth 234 = .ok (.getfield 70, 3) := by decide +kernel
theorem dX7_worth_237 : decode cX7_worth 237 = .ok (.aload_n 0, 1) := by decide +kernel
theorem dX7_worth_238 : decode cX7_worth 238 = .ok (.getfield 64, 3) := by decide +kernel
theorem dX7_worth_241 : decode cX7_worth 241 = .ok (.iload 9, 2) := by decide +kernel
theorem dX7_worth_243 : decode cX7_worth 243 = .ok (.aaload, 1) := by decide +kernel
theorem dX7_worth_244 : decode cX7_worth 244 = .ok (.invokestatic 124, 3) := by decide +kernel
theorem dX7_worth_247 : decode cX7_worth 247 = .ok (.iload 9, 2) := by decide +kernel
theorem dX7_worth_249 : decode cX7_worth 249 = .ok (.iload_n 1, 1) := by decide +kernel
theorem dX7_worth_250 : decode cX7_worth 250 = .ok (.if_icmp .ne 7, 3) := by decide +kernel
theorem dX7_worth_253 : decode cX7_worth 253 = .ok (.iload 10, 2) := by decide +kernel
theorem dX7_worth_255 : decode cX7_worth 255 = .ok (.istore 6, 2) := by decide +kernel
theorem dX7_worth_257 : decode cX7_worth 257 = .ok (.iinc 9 1, 3) := by decide +kernel
theorem dX7_worth_260 : decode cX7_worth 260 = .ok (.goto (-44), 3) := by decide +kernel
theorem dX7_worth_263 : decode cX7_worth 263 = .ok (.iinc 7 1, 3) := by decide +kernel
theorem dX7_worth_266 : decode cX7_worth 266 = .ok (.goto (-177), 3) := by decide +kernel
theorem dX7_worth_269 : decode cX7_worth 269 = .ok (.aload_n 0, 1) := by decide +kernel
theorem dX7_worth_270 : decode cX7_worth 270 = .ok (.getfield 64, 3) := by decide +kernel
theorem dX7_worth_273 : decode cX7_worth 273 = .ok (.iload_n 1, 1) := by decide +kernel
theorem dX7_worth_274 : decode cX7_worth 274 = .ok (.aaload, 1) := by decide +kernel
theorem dX7_worth_275 : decode cX7_worth 275 = .ok (.aload_n 0, 1) := by decide +kernel
theorem dX7_worth_276 : decode cX7_worth 276 = .ok (.getfield 14, 3) := by decide +kernel
theorem dX7_worth_279 : decode cX7_worth 279 = .ok (.invokestatic 124, 3) := by decide +kernel
theorem dX7_worth_282 : decode cX7_worth 282 = .ok (.aload_n 0, 1) := by decide +kernel
theorem dX7_worth_283 : decode cX7_worth 283 = .ok (.iconst 2, 1) := by decide +kernel
theorem dX7_worth_284 : decode cX7_worth 284 = .ok (.iload 5, 2) := by decide +kernel
theorem dX7_worth_286 : decode cX7_worth 286 = .ok (.imul, 1) := by decide +kernel
theorem dX7_worth_287 : decode cX7_worth 287 = .ok (.putfield 143, 3) := by decide +kernel
theorem dX7_worth_290 : decode cX7_worth 290 = .ok (.iload 6, 2) := by decide +kernel
theorem dX7_worth_292 : decode cX7_worth 292 = .ok (.ireturn, 1) := by decide +kernel
theorem dX7_pair_0 : decode cX7_pair 0 = .ok (.iload_n 1, 1) := by decide +kernel
theorem dX7_pair_1 : decode cX7_pair 1 = .ok (.bipush 43, 2) := by decide +kernel
theorem dX7_pair_3 : decode cX7_pair 3 = .ok (.imul, 1) := by decide +kernel
theorem dX7_pair_4 : decode cX7_pair 4 = .ok (.iload_n 2, 1) := by decide +kernel
theorem dX7_pair_5 : decode cX7_pair 5 = .ok (.iadd, 1) := by decide +kernel
theorem dX7_pair_6 : decode cX7_pair 6 = .ok (.bipush 43, 2) := by decide +kernel
theorem dX7_pair_8 : decode cX7_pair 8 = .ok (.imul, 1) := by decide +kernel
theorem dX7_pair_9 : decode cX7_pair 9 = .ok (.iload_n 3, 1) := by decide +kernel
theorem dX7_pair_10 : decode cX7_pair 10 = .ok (.iadd, 1) := by decide +kernel
theorem dX7_pair_11 : decode cX7_pair 11 = .ok (.istore 4, 2) := by decide +kernel
theorem dX7_pair_13 : decode cX7_pair 13 = .ok (.aload_n 0, 1) := by decide +kernel
theorem dX7_pair_14 : decode cX7_pair 14 = .ok (.getfield 77, 3) := by decide +kernel
theorem dX7_pair_17 : decode cX7_pair 17 = .ok (.iload 4, 2) := by decide +kernel
theorem dX7_pair_19 : decode cX7_pair 19 = .ok (.aaload, 1) := by decide +kernel
theorem dX7_pair_20 : decode cX7_pair 20 = .ok (.ifnonnull 14, 3) := by decide +kernel
theorem dX7_pair_23 : decode cX7_pair 23 = .ok (.aload_n 0, 1) := by decide +kernel
theorem dX7_pair_24 : decode cX7_pair 24 = .ok (.getfield 77, 3) := by decide +kernel
theorem dX7_pair_27 : decode cX7_pair 27 = .ok (.iload 4, 2) := by decide +kernel
theorem dX7_pair_29 : decode cX7_pair 29 = .ok (.bipush 72, 2) := by decide +kernel
theorem dX7_pair_31 : decode cX7_pair 31 = .ok (.newarray .int, 2) := by decide +kernel
theorem dX7_pair_33 : decode cX7_pair 33 = .ok (.aastore, 1) := by decide +kernel
theorem dX7_pair_34 : decode cX7_pair 34 = .ok (.aload_n 0, 1) := by decide +kernel
theorem dX7_pair_35 : decode cX7_pair 35 = .ok (.getfield 77, 3) := by decide +kernel
theorem dX7_pair_38 : decode cX7_pair 38 = .ok (.iload 4, 2) := by decide +kernel
theorem dX7_pair_40 : decode cX7_pair 40 = .ok (.aaload, 1) := by decide +kernel
theorem dX7_pair_41 : decode cX7_pair 41 = .ok (.areturn, 1) := by decide +kernel
theorem dX7_two_0 : decode cX7_two 0 = .ok (.iload_n 1, 1) := by decide +kernel
theorem dX7_two_1 : decode cX7_two 1 = .ok (.bipush 15, 2) := by decide +kernel
theorem dX7_two_3 : decode cX7_two 3 = .ok (.iand, 1) := by decide +kernel
theorem dX7_two_4 : decode cX7_two 4 = .ok (.istore 6, 2) := by decide +kernel
theorem dX7_two_6 : decode cX7_two 6 = .ok (.iload_n 1, 1) := by decide +kernel
theorem dX7_two_7 : decode cX7_two 7 = .ok (.iconst 4, 1) := by decide +kernel
theorem dX7_two_8 : decode cX7_two 8 = .ok (.ishr, 1) := by decide +kernel
theorem dX7_two_9 : decode cX7_two 9 = .ok (.bipush 15, 2) := by decide +kernel
theorem dX7_two_11 : decode cX7_two 11 = .ok (.iand, 1) := by decide +kernel
theorem dX7_two_12 : decode cX7_two 12 = .ok (.istore 7, 2) := by decide +kernel
theorem dX7_two_14 : decode cX7_two 14 = .ok (.iload_n 1, 1) := by decide +kernel
theorem dX7_two_15 : decode cX7_two 15 = .ok (.bipush 8, 2) := by decide +kernel
theorem dX7_two_17 : decode cX7_two 17 = .ok (.ishr, 1) := by decide +kernel
theorem dX7_two_18 : decode cX7_two 18 = .ok (.bipush 15, 2) := by decide +kernel
theorem dX7_two_20 : decode cX7_two 20 = .ok (.iand, 1) := by decide +kernel
theorem dX7_two_21 : decode cX7_two 21 = .ok (.istore 8, 2) := by decide +kernel
theorem dX7_two_23 : decode cX7_two 23 = .ok (.iload_n 1, 1) := by decide +kernel
theorem dX7_two_24 : decode cX7_two 24 = .ok (.bipush 12, 2) := by decide +kernel
theorem dX7_two_26 : decode cX7_two 26 = .ok (.ishr, 1) := by decide +kernel
theorem dX7_two_27 : decode cX7_two 27 = .ok (.bipush 15, 2) := by decide +kernel
theorem dX7_two_29 : decode cX7_two 29 = .ok (.iand, 1) := by decide +kernel
theorem dX7_two_30 : decode cX7_two 30 = .ok (.istore 9, 2) := by decide +kernel
theorem dX7_two_32 : decode cX7_two 32 = .ok (.iload_n 1, 1) := by decide +kernel
theorem dX7_two_33 : decode cX7_two 33 = .ok (.iconst 0, 1) := by decide +kernel
theorem dX7_two_34 : decode cX7_two 34 = .ok (.ldc 169, 2) := by decide +kernel
theorem dX7_two_36 : decode cX7_two 36 = .ok (.invokestatic 80, 3) := by decide +kernel
theorem dX7_two_39 : decode cX7_two 39 = .ok (.ifCond .eq 57, 3) := by decide +kernel
theorem dX7_two_42 : decode cX7_two 42 = .ok (.iload 6, 2) := by decide +kernel
theorem dX7_two_44 : decode cX7_two 44 = .ok (.bipush 12, 2) := by decide +kernel
theorem dX7_two_46 : decode cX7_two 46 = .ok (.if_icmp .gt 50, 3) := by decide +kernel
theorem dX7_two_49 : decode cX7_two 49 = .ok (.iload 7, 2) := by decide +kernel
theorem dX7_two_51 : decode cX7_two 51 = .ok (.bipush 12, 2) := by decide +kernel
theorem dX7_two_53 : decode cX7_two 53 = .ok (.if_icmp .gt 43, 3) := by decide +kernel
theorem dX7_two_56 : decode cX7_two 56 = .ok (.iload 8, 2) := by decide +kernel
theorem dX7_two_58 : decode cX7_two 58 = .ok (.bipush 6, 2) := by decide +kernel
theorem dX7_two_60 : decode cX7_two 60 = .ok (.if_icmp .gt 36, 3) := by decide +kernel
theorem dX7_two_63 : decode cX7_two 63 = .ok (.iload 9, 2) := by decide +kernel
theorem dX7_two_65 : decode cX7_two 65 = .ok (.bipush 6, 2) := by decide +kernel
theorem dX7_two_67 : decode cX7_two 67 = .ok (.if_icmp .gt 29, 3) := by decide +kernel
theorem dX7_two_70 : decode cX7_two 70 = .ok (.aload_n 0, 1) := by decide +kernel
theorem dX7_two_71 : decode cX7_two 71 = .ok (.iload_n 2, 1) := by decide +kernel
theorem dX7_two_72 : decode cX7_two 72 = .ok (.invokevirtual 88, 3) := by decide +kernel
theorem dX7_two_75 : decode cX7_two 75 = .ok (.ifCond .eq 21, 3) := by decide +kernel
theorem dX7_two_78 : decode cX7_two 78 = .ok (.aload_n 0, 1) := by decide +kernel
theorem dX7_two_79 : decode cX7_two 79 = .ok (.iload_n 3, 1) := by decide +kernel
theorem dX7_two_80 : decode cX7_two 80 = .ok (.invokevirtual 88, 3) := by decide +kernel
theorem dX7_two_83 : decode cX7_two 83 = .ok (.ifCond .eq 13, 3) := by decide +kernel
theorem dX7_two_86 : decode cX7_two 86 = .ok (.iload 4, 2) := by decide +kernel
theorem dX7_two_88 : decode cX7_two 88 = .ok (.iconst 1, 1) := by decide +kernel
theorem dX7_two_89 : decode cX7_two 89 = .ok (.iconst 5, 1) := by decide +kernel
theorem dX7_two_90 : decode cX7_two 90 = .ok (.invokestatic 80, 3) := by decide +kernel
theorem dX7_two_93 : decode cX7_two 93 = .ok (.ifCond .ne 5, 3) := by decide +kernel
theorem dX7_two_96 : decode cX7_two 96 = .ok (.iconst 0, 1) := by decide +kernel
theorem dX7_two_97 : decode cX7_two 97 = .ok (.ireturn, 1) := by decide +kernel
theorem dX7_two_98 : decode cX7_two 98 = .ok (.iconst 0, 1) := by decide +kernel
theorem dX7_two_99 : decode cX7_two 99 = .ok (.istore 10, 2) := by decide +kernel
theorem dX7_two_101 : decode cX7_two 101 = .ok (.iload 10, 2) := by decide +kernel
theorem dX7_two_103 : decode cX7_two 103 = .ok (.bipush 43, 2) := by decide +kernel
theorem dX7_two_105 : decode cX7_two 105 = .ok (.if_icmp .ge 37, 3) := by decide +kernel
theorem dX7_two_108 : decode cX7_two 108 = .ok (.iconst 0, 1) := by decide +kernel
theorem dX7_two_109 : decode cX7_two 109 = .ok (.istore 11, 2) := by decide +kernel
theorem dX7_two_111 : decode cX7_two 111 = .ok (.iload 11, 2) := by decide +kernel
theorem dX7_two_113 : decode cX7_two 113 = .ok (.bipush 43, 2) := by decide +kernel
theorem dX7_two_115 : decode cX7_two 115 = .ok (.if_icmp .ge 21, 3) := by decide +kernel
theorem dX7_two_118 : decode cX7_two 118 = .ok (.aload_n 0, 1) := by decide +kernel
theorem dX7_two_119 : decode cX7_two 119 = .ok (.iconst 0, 1) := by decide +kernel
theorem dX7_two_120 : decode cX7_two 120 = .ok (.iload 10, 2) := by decide +kernel
theorem dX7_two_122 : decode cX7_two 122 = .ok (.iload 11, 2) := by decide +kernel
theorem dX7_two_124 : decode cX7_two 124 = .ok (.invokevirtual 170, 3) := by decide +kernel
theorem dX7_two_127 : decode cX7_two 127 = .ok (.invokestatic 112, 3) := by decide +kernel
theorem dX7_two_130 : decode cX7_two 130 = .ok (.iinc 11 1, 3) := by decide +kernel
theorem dX7_two_133 : decode cX7_two 133 = .ok (.goto (-22), 3) := by decide +kernel
theorem dX7_two_136 : decode cX7_two 136 = .ok (.iinc 10 1, 3) := by decide +kernel
theorem dX7_two_139 : decode cX7_two 139 = .ok (.goto (-38), 3) := by decide +kernel
theorem dX7_two_142 : decode cX7_two 142 = .ok (.aload_n 0, 1) := by decide +kernel
theorem dX7_two_143 : decode cX7_two 143 = .ok (.iconst 0, 1) := by decide +kernel
theorem dX7_two_144 : decode cX7_two 144 = .ok (.iload 6, 2) := by decide +kernel
theorem dX7_two_146 : decode cX7_two 146 = .ok (.iload 7, 2) := by decide +kernel
theorem dX7_two_148 : decode cX7_two 148 = .ok (.invokevirtual 170, 3) := by decide +kernel
theorem dX7_two_151 : decode cX7_two 151 = .ok (.iconst 0, 1) := by decide +kernel
theorem dX7_two_152 : decode cX7_two 152 = .ok (.iconst 1, 1) := by decide +kernel
theorem dX7_two_153 : decode cX7_two 153 = .ok (.iastore, 1) := by decide +kernel
theorem dX7_two_154 : decode cX7_two 154 = .ok (.iconst 0, 1) := by decide +kernel
theorem dX7_two_155 : decode cX7_two 155 = .ok (.istore 10, 2) := by decide +kernel
theorem dX7_two_157 : decode cX7_two 157 = .ok (.iload 10, 2) := by decide +kernel
theorem dX7_two_159 : decode cX7_two 159 = .ok (.iload 4, 2) := by decide +kernel
theorem dX7_two_161 : decode cX7_two 161 = .ok (.if_icmp .ge 189, 3) := by decide +kernel
theorem dX7_two_164 : decode cX7_two 164 = .ok (.iconst 0, 1) := by decide +kernel
theorem dX7_two_165 : decode cX7_two 165 = .ok (.istore 11, 2) := by decide +kernel
theorem dX7_two_167 : decode cX7_two 167 = .ok (.iload 11, 2) := by decide +kernel
theorem dX7_two_169 : decode cX7_two 169 = .ok (.bipush 43, 2) := by decide +kernel
theorem dX7_two_171 : decode cX7_two 171 = .ok (.if_icmp .ge 37, 3) := by decide +kernel
theorem dX7_two_174 : decode cX7_two 174 = .ok (.iconst 0, 1) := by decide +kernel
theorem dX7_two_175 : decode cX7_two 175 = .ok (.istore 12, 2) := by decide +kernel
theorem dX7_two_177 : decode cX7_two 177 = .ok (.iload 12, 2) := by decide +kernel
theorem dX7_two_179 : decode cX7_two 179 = .ok (.bipush 43, 2) := by decide +kernel
theorem dX7_two_181 : decode cX7_two 181 = .ok (.if_icmp .ge 21, 3) := by decide +kernel
theorem dX7_two_184 : decode cX7_two 184 = .ok (.aload_n 0, 1) := by decide +kernel
theorem dX7_two_185 : decode cX7_two 185 = .ok (.iconst 1, 1) := by decide +kernel
theorem dX7_two_186 : decode cX7_two 186 = .ok (.iload 11, 2) := by decide +kernel
theorem dX7_two_188 : decode cX7_two 188 = .ok (.iload 12, 2) := by decide +kernel
theorem dX7_two_190 : decode cX7_two 190 = .ok (.invokevirtual 170, 3) := by decide +kernel
theorem dX7_two_193 : decode cX7_two 193 = .ok (.invokestatic 112, 3) := by decide +kernel
theorem dX7_two_196 : decode cX7_two 196 = .ok (.iinc 12 1, 3) := by decide +kernel
theorem dX7_two_199 : decode cX7_two 199 = .ok (.goto (-22), 3) := by decide +kernel
theorem dX7_two_202 : decode cX7_two 202 = .ok (.iinc 11 1, 3) := by decide +kernel
theorem dX7_two_205 : decode cX7_two 205 = .ok (.goto (-38), 3) := by decide +kernel
theorem dX7_two_208 : decode cX7_two 208 = .ok (.iconst 0, 1) := by decide +kernel
theorem dX7_two_209 : decode cX7_two 209 = .ok (.istore 11, 2) := by decide +kernel
theorem dX7_two_211 : decode cX7_two 211 = .ok (.iload 11, 2) := by decide +kernel
theorem dX7_two_213 : decode cX7_two 213 = .ok (.iload 6, 2) := by decide +kernel
theorem dX7_two_215 : decode cX7_two 215 = .ok (.iload 8, 2) := by decide +kernel
theorem dX7_two_217 : decode cX7_two 217 = .ok (.iload 10, 2) := by decide +kernel
theorem dX7_two_219 : decode cX7_two 219 = .ok (.imul, 1) := by decide +kernel
theorem dX7_two_220 : decode cX7_two 220 = .ok (.iadd, 1) := by decide +kernel
theorem dX7_two_221 : decode cX7_two 221 = .ok (.iload 7, 2) := by decide +kernel
theorem dX7_two_223 : decode cX7_two 223 = .ok (.iadd, 1) := by decide +kernel
theorem dX7_two_224 : decode cX7_two 224 = .ok (.iload 9, 2) := by decide +kernel
theorem dX7_two_226 : decode cX7_two 226 = .ok (.iload 10, 2) := by decide +kernel
theorem dX7_two_228 : decode cX7_two 228 = .ok (.imul, 1) := by decide +kernel
theorem dX7_two_229 : decode cX7_two 229 = .ok (.iadd, 1) := by decide +kernel
theorem dX7_two_230 : decode cX7_two 230 = .ok (.if_icmp .gt 61, 3) := by decide +kernel
theorem dX7_two_233 : decode cX7_two 233 = .ok (.iload 11, 2) := by decide +kernel
theorem dX7_two_235 : decode cX7_two 235 = .ok (.bipush 43, 2) := by decide +kernel
theorem dX7_two_237 : decode cX7_two 237 = .ok (.if_icmp .ge 54, 3) := by decide +kernel
theorem dX7_two_240 : decode cX7_two 240 = .ok (.iconst 0, 1) := by decide +kernel
theorem dX7_two_241 : decode cX7_two 241 = .ok (.istore 12, 2) := by decide +kernel
theorem dX7_two_243 : decode cX7_two 243 = .ok (.iload 12, 2) := by decide +kernel
theorem dX7_two_245 : decode cX7_two 245 = .ok (.iload 7, 2) := by decide +kernel
theorem dX7_two_247 : decode cX7_two 247 = .ok (.iload 9, 2) := by decide +kernel
theorem dX7_two_249 : decode cX7_two 249 = .ok (.iload 10, 2) := by decide +kernel
theorem dX7_two_251 : decode cX7_two 251 = .ok (.imul, 1) := by decide +kernel
theorem dX7_two_252 : decode cX7_two 252 = .ok (.iadd, 1) := by decide +kernel
theorem dX7_two_253 : decode cX7_two 253 = .ok (.if_icmp .gt 32, 3) := by decide +kernel
theorem dX7_two_256 : decode cX7_two 256 = .ok (.iload 12, 2) := by decide +kernel
theorem dX7_two_258 : decode cX7_two 258 = .ok (.bipush 43, 2) := by decide +kernel
theorem dX7_two_260 : decode cX7_two 260 = .ok (.if_icmp .ge 25, 3) := by decide +kernel
theorem dX7_two_263 : decode cX7_two 263 = .ok (.aload_n 0, 1) := by decide +kernel
theorem dX7_two_264 : decode cX7_two 264 = .ok (.iload 11, 2) := by decide +kernel
theorem dX7_two_266 : decode cX7_two 266 = .ok (.iload 12, 2) := by decide +kernel
theorem dX7_two_268 : decode cX7_two 268 = .ok (.iload 8, 2) := by decide +kernel
theorem dX7_two_270 : decode cX7_two 270 = .ok (.iload 9, 2) := by decide +kernel
theorem dX7_two_272 : decode cX7_two 272 = .ok (.iload_n 2, 1) := by decide +kernel
theorem dX7_two_273 : decode cX7_two 273 = .ok (.iload_n 3, 1) := by decide +kernel
theorem dX7_two_274 : decode cX7_two 274 = .ok (.iload 5, 2) := by decide +kernel
theorem dX7_two_276 : decode cX7_two 276 = .ok (.invokevirtual 174, 3) := by decide +kernel
theorem dX7_two_279 : decode cX7_two 279 = .ok (.iinc 12 1, 3) := by decide +kernel
theorem dX7_two_282 : decode cX7_two 282 = .ok (.goto (-39), 3) := by decide +kernel
theorem dX7_two_285 : decode cX7_two 285 = .ok (.iinc 11 1, 3) := by decide +kernel
theorem dX7_two_288 : decode cX7_two 288 = .ok (.goto (-77), 3) := by decide +kernel
theorem dX7_two_291 : decode cX7_two 291 = .ok (.iconst 0, 1) := by decide +kernel
theorem dX7_two_292 : decode cX7_two 292 = .ok (.istore 11, 2) := by decide +kernel
theorem dX7_two_294 : decode cX7_two 294 = .ok (.iload 11, 2) := by decide +kernel
theorem dX7_two_296 : decode cX7_two 296 = .ok (.bipush 43, 2) := by decide +kernel
theorem dX7_two_298 : decode cX7_two 298 = .ok (.if_icmp .ge 46, 3) := by decide +kernel
theorem dX7_two_301 : decode cX7_two 301 = .ok (.iconst 0, 1) := by decide +kernel
theorem dX7_two_302 : decode cX7_two 302 = .ok (.istore 12, 2) := by decide +kernel
theorem dX7_two_304 : decode cX7_two 304 = .ok (.iload 12, 2) := by decide +kernel
theorem dX7_two_306 : decode cX7_two 306 = .ok (.bipush 43, 2) := by decide +kernel
theorem dX7_two_308 : decode cX7_two 308 = .ok (.if_icmp .ge 30, 3) := by decide +kernel
theorem dX7_two_311 : decode cX7_two 311 = .ok (.aload_n 0, 1) := by decide +kernel
theorem dX7_two_312 : decode cX7_two 312 = .ok (.iconst 1, 1) := by decide +kernel
theorem dX7_two_313 : decode cX7_two 313 = .ok (.iload 11, 2) := by decide +kernel
theorem dX7_two_315 : decode cX7_two 315 = .ok (.iload 12, 2) := by decide +kernel
theorem dX7_two_317 : decode cX7_two 317 = .ok (.invokevirtual 170, 3) := by decide +kernel
theorem dX7_two_320 : decode cX7_two 320 = .ok (.aload_n 0, 1) := by decide +kernel
theorem dX7_two_321 : decode cX7_two 321 = .ok (.iconst 0, 1) := by decide +kernel
theorem dX7_two_322 : decode cX7_two 322 = .ok (.iload 11, 2) := by decide +kernel
theorem dX7_two_324 : decode cX7_two 324 = .ok (.iload 12, 2) := by decide +kernel
theorem dX7_two_326 : decode cX7_two 326 = .ok (.invokevirtual 170, 3) := by decide +kernel
theorem dX7_two_329 : decode cX7_two 329 = .ok (.invokestatic 124, 3) := by decide +kernel
theorem dX7_two_332 : decode cX7_two 332 = .ok (.iinc 12 1, 3) := by decide +kernel
theorem dX7_two_335 : decode cX7_two 335 = .ok (.goto (-31), 3) := by decide +kernel
theorem dX7_two_338 : decode cX7_two 338 = .ok (.iinc 11 1, 3) := by decide +kernel
theorem dX7_two_341 : decode cX7_two 341 = .ok (.goto (-47), 3) := by decide +kernel
theorem dX7_two_344 : decode cX7_two 344 = .ok (.iinc 10 1, 3) := by decide +kernel
theorem dX7_two_347 : decode cX7_two 347 = .ok (.goto (-190), 3) := by decide +kernel
theorem dX7_two_350 : decode cX7_two 350 = .ok (.aload_n 0, 1) := by decide +kernel
theorem dX7_two_351 : decode cX7_two 351 = .ok (.getfield 14, 3) := by decide +kernel
theorem dX7_two_354 : decode cX7_two 354 = .ok (.invokestatic 112, 3) := by decide +kernel
theorem dX7_two_357 : decode cX7_two 357 = .ok (.iconst 0, 1) := by decide +kernel
theorem dX7_two_358 : decode cX7_two 358 = .ok (.istore 10, 2) := by decide +kernel
theorem dX7_two_360 : decode cX7_two 360 = .ok (.iload 10, 2) := by decide +kernel
theorem dX7_two_362 : decode cX7_two 362 = .ok (.bipush 43, 2) := by decide +kernel
theorem dX7_two_364 : decode cX7_two 364 = .ok (.if_icmp .ge 44, 3) := by decide +kernel
theorem dX7_two_367 : decode cX7_two 367 = .ok (.iconst 0, 1) := by decide +kernel
theorem dX7_two_368 : decode cX7_two 368 = .ok (.istore 11, 2) := by decide +kernel
theorem dX7_two_370 : decode cX7_two 370 = .ok (.iload 11, 2) := by decide +kernel
theorem dX7_two_372 : decode cX7_two 372 = .ok (.bipush 43, 2) := by decide +kernel
theorem dX7_two_374 : decode cX7_two 374 = .ok (.if_icmp .ge 28, 3) := by decide +kernel
theorem dX7_two_377 : decode cX7_two 377 = .ok (.aload_n 0, 1) := by decide +kernel
theorem dX7_two_378 : decode cX7_two 378 = .ok (.aload_n 0, 1) := by decide +kernel
theorem dX7_two_379 : decode cX7_two 379 = .ok (.getfield 14, 3) := by decide +kernel
theorem dX7_two_382 : decode cX7_two 382 = .ok (.aload_n 0, 1) := by decide +kernel
theorem dX7_two_383 : decode cX7_two 383 = .ok (.iconst 0, 1) := by decide +kernel
theorem dX7_two_384 : decode cX7_two 384 = .ok (.iload 10, 2) := by decide +kernel
theorem dX7_two_386 : decode cX7_two 386 = .ok (.iload 11, 2) := by decide +kernel
theorem dX7_two_388 : decode cX7_two 388 = .ok (.invokevirtual 170, 3) := by decide +kernel
theorem dX7_two_391 : decode cX7_two 391 = .ok (.iconst 1, 1) := by decide +kernel
theorem dX7_two_392 : decode cX7_two 392 = .ok (.iconst 0, 1) := by decide +kernel
theorem dX7_two_393 : decode cX7_two 393 = .ok (.invokevirtual 120, 3) := by decide +kernel
theorem dX7_two_396 : decode cX7_two 396 = .ok (.iinc 11 1, 3) := by decide +kernel
theorem dX7_two_399 : decode cX7_two 399 = .ok (.goto (-29), 3) := by decide +kernel
theorem dX7_two_402 : decode cX7_two 402 = .ok (.iinc 10 1, 3) := by decide +kernel
theorem dX7_two_405 : decode cX7_two 405 = .ok (.goto (-45), 3) := by decide +kernel
theorem dX7_two_408 : decode cX7_two 408 = .ok (.aload_n 0, 1) := by decide +kernel
theorem dX7_two_409 : decode cX7_two 409 = .ok (.iconst 2, 1) := by decide +kernel
theorem dX7_two_410 : decode cX7_two 410 = .ok (.iload 4, 2) := by decide +kernel
theorem dX7_two_412 : decode cX7_two 412 = .ok (.imul, 1) := by decide +kernel
theorem dX7_two_413 : decode cX7_two 413 = .ok (.putfield 143, 3) := by decide +kernel
theorem dX7_two_416 : decode cX7_two 416 = .ok (.iconst 1, 1) := by decide +kernel
theorem dX7_two_417 : decode cX7_two 417 = .ok (.ireturn, 1) := by decide +kernel
theorem dX7_isNought_0 : decode cX7_isNought 0 = .ok (.iconst 0, 1) := by decide +kernel
theorem dX7_isNought_1 : decode cX7_isNought 1 = .ok (.istore_n 2, 1) := by decide +kernel
theorem dX7_isNought_2 : decode cX7_isNought 2 = .ok (.iload_n 2, 1) := by decide +kernel
theorem dX7_isNought_3 : decode cX7_isNought 3 = .ok (.bipush 72, 2) := by decide +kernel
theorem dX7_isNought_5 : decode cX7_isNought 5 = .ok (.if_icmp .ge 17, 3) := by decide +kernel
theorem dX7_isNought_8 : decode cX7_isNought 8 = .ok (.aload_n 1, 1) := by decide +kernel
theorem dX7_isNought_9 : decode cX7_isNought 9 = .ok (.iload_n 2, 1) := by decide +kernel
theorem dX7_isNought_10 : decode cX7_isNought 10 = .ok (.iaload, 1) := by decide +kernel
theorem dX7_isNought_11 : decode cX7_isNought 11 = .ok (.ifCond .eq 5, 3) := by decide +kernel
theorem dX7_isNought_14 : decode cX7_isNought 14 = .ok (.iconst 0, 1) := by decide +kernel
theorem dX7_isNought_15 : decode cX7_isNought 15 = .ok (.ireturn, 1) := by decide +kernel
theorem dX7_isNought_16 : decode cX7_isNought 16 = .ok (.iinc 2 1, 3) := by decide +kernel
theorem dX7_isNought_19 : decode cX7_isNought 19 = .ok (.goto (-17), 3) := by decide +kernel
theorem dX7_isNought_22 : decode cX7_isNought 22 = .ok (.iconst 1, 1) := by decide +kernel
theorem dX7_isNought_23 : decode cX7_isNought 23 = .ok (.ireturn, 1) := by decide +kernel
theorem dX7_steps_0 : decode cX7_steps 0 = .ok (.aload_n 0, 1) := by decide +kernel
theorem dX7_steps_1 : decode cX7_steps 1 = .ok (.iconst 0, 1) := by decide +kernel
theorem dX7_steps_2 : decode cX7_steps 2 = .ok (.iload_n 1, 1) := by decide +kernel
theorem dX7_steps_3 : decode cX7_steps 3 = .ok (.iload_n 2, 1) := by decide +kernel
theorem dX7_steps_4 : decode cX7_steps 4 = .ok (.invokevirtual 170, 3) := by decide +kernel
theorem dX7_steps_7 : decode cX7_steps 7 = .ok (.astore 8, 2) := by decide +kernel
theorem dX7_steps_9 : decode cX7_steps 9 = .ok (.aload_n 0, 1) := by decide +kernel
theorem dX7_steps_10 : decode cX7_steps 10 = .ok (.aload 8, 2) := by decide +kernel
theorem dX7_steps_12 : decode cX7_steps 12 = .ok (.invokevirtual 116, 3) := by decide +kernel
theorem dX7_steps_15 : decode cX7_steps 15 = .ok (.ifCond .eq 4, 3) := by decide +kernel
theorem dX7_steps_18 : decode cX7_steps 18 = .ok (.return_, 1) := by decide +kernel
theorem dX7_steps_19 : decode cX7_steps 19 = .ok (.iconst 0, 1) := by decide +kernel
theorem dX7_steps_20 : decode cX7_steps 20 = .ok (.istore 9, 2) := by decide +kernel
theorem dX7_steps_22 : decode cX7_steps 22 = .ok (.iload 9, 2) := by decide +kernel
theorem dX7_steps_24 : decode cX7_steps 24 = .ok (.bipush 21, 2) := by decide +kernel
theorem dX7_steps_26 : decode cX7_steps 26 = .ok (.if_icmp .ge 160, 3) := by decide +kernel
theorem dX7_steps_29 : decode cX7_steps 29 = .ok (.iconst 0, 1) := by decide +kernel
theorem dX7_steps_30 : decode cX7_steps 30 = .ok (.istore 10, 2) := by decide +kernel
theorem dX7_steps_32 : decode cX7_steps 32 = .ok (.iload 10, 2) := by decide +kernel
theorem dX7_steps_34 : decode cX7_steps 34 = .ok (.bipush 21, 2) := by decide +kernel
theorem dX7_steps_36 : decode cX7_steps 36 = .ok (.if_icmp .ge 144, 3) := by decide +kernel
theorem dX7_steps_39 : decode cX7_steps 39 = .ok (.aload_n 0, 1) := by decide +kernel
theorem dX7_steps_40 : decode cX7_steps 40 = .ok (.getfield 11, 3) := by decide +kernel
theorem dX7_steps_43 : decode cX7_steps 43 = .ok (.iload 5, 2) := by decide +kernel
theorem dX7_steps_45 : decode cX7_steps 45 = .ok (.aaload, 1) := by decide +kernel
theorem dX7_steps_46 : decode cX7_steps 46 = .ok (.iload 9, 2) := by decide +kernel
theorem dX7_steps_48 : decode cX7_steps 48 = .ok (.iaload, 1) := by decide +kernel
theorem dX7_steps_49 : decode cX7_steps 49 = .ok (.aload_n 0, 1) := by decide +kernel
theorem dX7_steps_50 : decode cX7_steps 50 = .ok (.getfield 11, 3) := by decide +kernel
theorem dX7_steps_53 : decode cX7_steps 53 = .ok (.iload 6, 2) := by decide +kernel
theorem dX7_steps_55 : decode cX7_steps 55 = .ok (.aaload, 1) := by decide +kernel
theorem dX7_steps_56 : decode cX7_steps 56 = .ok (.iload 10, 2) := by decide +kernel
theorem dX7_steps_58 : decode cX7_steps 58 = .ok (.iaload, 1) := by decide +kernel
theorem dX7_steps_59 : decode cX7_steps 59 = .ok (.imul, 1) := by decide +kernel
theorem dX7_steps_60 : decode cX7_steps 60 = .ok (.istore 11, 2) := by decide +kernel
theorem dX7_steps_62 : decode cX7_steps 62 = .ok (.iload 11, 2) := by decide +kernel
theorem dX7_steps_64 : decode cX7_steps 64 = .ok (.ifCond .ne 6, 3) := by decide +kernel
theorem dX7_steps_67 : decode cX7_steps 67 = .ok (.goto 107, 3) := by decide +kernel
theorem dX7_steps_70 : decode cX7_steps 70 = .ok (.iload_n 1, 1) := by decide +kernel
theorem dX7_steps_71 : decode cX7_steps 71 = .ok (.iload_n 3, 1) := by decide +kernel
theorem dX7_steps_72 : decode cX7_steps 72 = .ok (.iadd, 1) := by decide +kernel
theorem dX7_steps_73 : decode cX7_steps 73 = .ok (.iload 9, 2) := by decide +kernel
theorem dX7_steps_75 : decode cX7_steps 75 = .ok (.isub, 1) := by decide +kernel
theorem dX7_steps_76 : decode cX7_steps 76 = .ok (.istore 12, 2) := by decide +kernel
theorem dX7_steps_78 : decode cX7_steps 78 = .ok (.iload_n 2, 1) := by decide +kernel
theorem dX7_steps_79 : decode cX7_steps 79 = .ok (.iload 4, 2) := by decide +kernel
theorem dX7_steps_81 : decode cX7_steps 81 = .ok (.iadd, 1) := by decide +kernel
theorem dX7_steps_82 : decode cX7_steps 82 = .ok (.iload 10, 2) := by decide +kernel
theorem dX7_steps_84 : decode cX7_steps 84 = .ok (.isub, 1) := by decide +kernel
theorem dX7_steps_85 : decode cX7_steps 85 = .ok (.istore 13, 2) := by decide +kernel
theorem dX7_steps_87 : decode cX7_steps 87 = .ok (.iload 7, 2) := by decide +kernel
theorem dX7_steps_89 : decode cX7_steps 89 = .ok (.ifCond .eq 29, 3) := by decide +kernel
theorem dX7_steps_92 : decode cX7_steps 92 = .ok (.iload 12, 2) := by decide +kernel
theorem dX7_steps_94 : decode cX7_steps 94 = .ok (.ifCond .ge 24, 3) := by decide +kernel
theorem dX7_steps_97 : decode cX7_steps 97 = .ok (.iload 13, 2) := by decide +kernel
theorem dX7_steps_99 : decode cX7_steps 99 = .ok (.iload 12, 2) := by decide +kernel
theorem dX7_steps_101 : decode cX7_steps 101 = .ok (.ineg, 1) := by decide +kernel
theorem dX7_steps_102 : decode cX7_steps 102 = .ok (.if_icmp .lt 16, 3) := by decide +kernel
theorem dX7_steps_105 : decode cX7_steps 105 = .ok (.iload 13, 2) := by decide +kernel
theorem dX7_steps_107 : decode cX7_steps 107 = .ok (.iload 12, 2) := by decide +kernel
theorem dX7_steps_109 : decode cX7_steps 109 = .ok (.iadd, 1) := by decide +kernel
theorem dX7_steps_110 : decode cX7_steps 110 = .ok (.istore 13, 2) := by decide +kernel
theorem dX7_steps_112 : decode cX7_steps 112 = .ok (.iconst 0, 1) := by decide +kernel
theorem dX7_steps_113 : decode cX7_steps 113 = .ok (.istore 12, 2) := by decide +kernel
theorem dX7_steps_115 : decode cX7_steps 115 = .ok (.goto 31, 3) := by decide +kernel
theorem dX7_steps_118 : decode cX7_steps 118 = .ok (.iload 7, 2) := by decide +kernel
theorem dX7_steps_120 : decode cX7_steps 120 = .ok (.ifCond .eq 26, 3) := by decide +kernel
theorem dX7_steps_123 : decode cX7_steps 123 = .ok (.iload 13, 2) := by decide +kernel
theorem dX7_steps_125 : decode cX7_steps 125 = .ok (.ifCond .ge 21, 3) := by decide +kernel
theorem dX7_steps_128 : decode cX7_steps 128 = .ok (.iload 12, 2) := by decide +kernel
theorem dX7_steps_130 : decode cX7_steps 130 = .ok (.iload 13, 2) := by decide +kernel
theorem dX7_steps_132 : decode cX7_steps 132 = .ok (.ineg, 1) := by decide +kernel
theorem dX7_steps_133 : decode cX7_steps 133 = .ok (.if_icmp .lt 13, 3) := by decide +kernel
theorem dX7_steps_136 : decode cX7_steps 136 = .ok (.iload 12, 2) := by decide +kernel
theorem dX7_steps_138 : decode cX7_steps 138 = .ok (.iload 13, 2) := by decide +kernel
theorem dX7_steps_140 : decode cX7_steps 140 = .ok (.iadd, 1) := by decide +kernel
theorem dX7_steps_141 : decode cX7_steps 141 = .ok (.istore 12, 2) := by decide +kernel
theorem dX7_steps_143 : decode cX7_steps 143 = .ok (.iconst 0, 1) := by decide +kernel
theorem dX7_steps_144 : decode cX7_steps 144 = .ok (.istore 13, 2) := by decide +kernel
theorem dX7_steps_146 : decode cX7_steps 146 = .ok (.iload 12, 2) := by decide +kernel
theorem dX7_steps_148 : decode cX7_steps 148 = .ok (.ifCond .lt 26, 3) := by decide +kernel
theorem dX7_steps_151 : decode cX7_steps 151 = .ok (.iload 13, 2) := by decide +kernel
theorem dX7_steps_153 : decode cX7_steps 153 = .ok (.ifCond .lt 21, 3) := by decide +kernel
theorem dX7_steps_156 : decode cX7_steps 156 = .ok (.aload_n 0, 1) := by decide +kernel
theorem dX7_steps_157 : decode cX7_steps 157 = .ok (.aload_n 0, 1) := by decide +kernel
theorem dX7_steps_158 : decode cX7_steps 158 = .ok (.iconst 1, 1) := by decide +kernel
theorem dX7_steps_159 : decode cX7_steps 159 = .ok (.iload 12, 2) := by decide +kernel
theorem dX7_steps_161 : decode cX7_steps 161 = .ok (.iload 13, 2) := by decide +kernel
theorem dX7_steps_163 : decode cX7_steps 163 = .ok (.invokevirtual 170, 3) := by decide +kernel
theorem dX7_steps_166 : decode cX7_steps 166 = .ok (.aload 8, 2) := by decide +kernel
theorem dX7_steps_168 : decode cX7_steps 168 = .ok (.iload 11, 2) := by decide +kernel
theorem dX7_steps_170 : decode cX7_steps 170 = .ok (.iconst 0, 1) := by decide +kernel
theorem dX7_steps_171 : decode cX7_steps 171 = .ok (.invokevirtual 120, 3) := by decide +kernel
theorem dX7_steps_174 : decode cX7_steps 174 = .ok (.iinc 10 1, 3) := by decide +kernel
theorem dX7_steps_177 : decode cX7_steps 177 = .ok (.goto (-145), 3) := by decide +kernel
theorem dX7_steps_180 : decode cX7_steps 180 = .ok (.iinc 9 1, 3) := by decide +kernel
theorem dX7_steps_183 : decode cX7_steps 183 = .ok (.goto (-161), 3) := by decide +kernel
theorem dX7_steps_186 : decode cX7_steps 186 = .ok (.return_, 1) := by decide +kernel
theorem dX7_digit_0 : decode cX7_digit 0 = .ok (.iload_n 1, 1) := by decide +kernel
theorem dX7_digit_1 : decode cX7_digit 1 = .ok (.ifCond .ne 29, 3) := by decide +kernel
theorem dX7_digit_4 : decode cX7_digit 4 = .ok (.aload_n 0, 1) := by decide +kernel
theorem dX7_digit_5 : decode cX7_digit 5 = .ok (.getfield 14, 3) := by decide +kernel
theorem dX7_digit_8 : decode cX7_digit 8 = .ok (.aload_n 0, 1) := by decide +kernel
theorem dX7_digit_9 : decode cX7_digit 9 = .ok (.getfield 143, 3) := by decide +kernel
theorem dX7_digit_12 : decode cX7_digit 12 = .ok (.iaload, 1) := by decide +kernel
theorem dX7_digit_13 : decode cX7_digit 13 = .ok (.sipush 1000, 3) := by decide +kernel
theorem dX7_digit_16 : decode cX7_digit 16 = .ok (.aload_n 0, 1) := by decide +kernel
theorem dX7_digit_17 : decode cX7_digit 17 = .ok (.getfield 14, 3) := by decide +kernel
theorem dX7_digit_20 : decode cX7_digit 20 = .ok (.aload_n 0, 1) := by decide +kernel
theorem dX7_digit_21 : decode cX7_digit 21 = .ok (.getfield 143, 3) := by decide +kernel
theorem dX7_digit_24 : decode cX7_digit 24 = .ok (.iconst 1, 1) := by decide +kernel
theorem dX7_digit_25 : decode cX7_digit 25 = .ok (.iadd, 1) := by decide +kernel
theorem dX7_digit_26 : decode cX7_digit 26 = .ok (.iaload, 1) := by decide +kernel
theorem dX7_digit_27 : decode cX7_digit 27 = .ok (.imul, 1) := by decide +kernel
theorem dX7_digit_28 : decode cX7_digit 28 = .ok (.iadd, 1) := by decide +kernel
theorem dX7_digit_29 : decode cX7_digit 29 = .ok (.ireturn, 1) := by decide +kernel
theorem dX7_digit_30 : decode cX7_digit 30 = .ok (.iload_n 1, 1) := by decide +kernel
theorem dX7_digit_31 : decode cX7_digit 31 = .ok (.iconst 1, 1) := by decide +kernel
theorem dX7_digit_32 : decode cX7_digit 32 = .ok (.iconst 3, 1) := by decide +kernel
theorem dX7_digit_33 : decode cX7_digit 33 = .ok (.aload_n 0, 1) := by decide +kernel
theorem dX7_digit_34 : decode cX7_digit 34 = .ok (.getfield 143, 3) := by decide +kernel
theorem dX7_digit_37 : decode cX7_digit 37 = .ok (.imul, 1) := by decide +kernel
theorem dX7_digit_38 : decode cX7_digit 38 = .ok (.invokestatic 80, 3) := by decide +kernel
theorem dX7_digit_41 : decode cX7_digit 41 = .ok (.ifCond .eq 18, 3) := by decide +kernel
theorem dX7_digit_44 : decode cX7_digit 44 = .ok (.aload_n 0, 1) := by decide +kernel
theorem dX7_digit_45 : decode cX7_digit 45 = .ok (.getfield 14, 3) := by decide +kernel
theorem dX7_digit_48 : decode cX7_digit 48 = .ok (.aload_n 0, 1) := by decide +kernel
theorem dX7_digit_49 : decode cX7_digit 49 = .ok (.getfield 143, 3) := by decide +kernel
theorem dX7_digit_52 : decode cX7_digit 52 = .ok (.iload_n 1, 1) := by decide +kernel
theorem dX7_digit_53 : decode cX7_digit 53 = .ok (.invokestatic 146, 3) := by decide +kernel
theorem dX7_digit_56 : decode cX7_digit 56 = .ok (.goto 4, 3) := by decide +kernel
theorem dX7_digit_59 : decode cX7_digit 59 = .ok (.iconst (-1), 1) := by decide +kernel
theorem dX7_digit_60 : decode cX7_digit 60 = .ok (.ireturn, 1) := by decide +kernel
theorem dX7_decimals_0 : decode cX7_decimals 0 = .ok (.iconst 3, 1) := by decide +kernel
theorem dX7_decimals_1 : decode cX7_decimals 1 = .ok (.aload_n 0, 1) := by decide +kernel
theorem dX7_decimals_2 : decode cX7_decimals 2 = .ok (.getfield 143, 3) := by decide +kernel
theorem dX7_decimals_5 : decode cX7_decimals 5 = .ok (.imul, 1) := by decide +kernel
theorem dX7_decimals_6 : decode cX7_decimals 6 = .ok (.ireturn, 1) := by decide +kernel
theorem dJ13_compare_74951_0 : decode cJ13_compare_74951 0 = .ok (.lload_n 0, 1) := by decide +kernel
theorem dJ13_compare_74951_1 : decode cJ13_compare_74951 1 = .ok (.lload_n 2, 1) := by decide +kernel
theorem dJ13_compare_74951_2 : decode cJ13_compare_74951 2 = .ok (.lcmp, 1) := by decide +kernel
theorem dJ13_compare_74951_3 : decode cJ13_compare_74951 3 = .ok (.ifCond .ge 7, 3) := by decide +kernel
theorem dJ13_compare_74951_6 : decode cJ13_compare_74951 6 = .ok (.iconst (-1), 1) := by decide +kernel
theorem dJ13_compare_74951_7 : decode cJ13_compare_74951 7 = .ok (.goto 14, 3) := by decide +kernel
theorem dJ13_compare_74951_10 : decode cJ13_compare_74951 10 = .ok (.lload_n 0, 1) := by decide +kernel
theorem dJ13_compare_74951_11 : decode cJ13_compare_74951 11 = .ok (.lload_n 2, 1) := by decide +kernel
theorem dJ13_compare_74951_12 : decode cJ13_compare_74951 12 = .ok (.lcmp, 1) := by decide +kernel
theorem dJ13_compare_74951_13 : decode cJ13_compare_74951 13 = .ok (.ifCond .ne 7, 3) := by decide +kernel
theorem dJ13_compare_74951_16 : decode cJ13_compare_74951 16 = .ok (.iconst 0, 1) := by decide +kernel
theorem dJ13_compare_74951_17 : decode cJ13_compare_74951 17 = .ok (.goto 4, 3) := by decide +kernel
theorem dJ13_compare_74951_20 : decode cJ13_compare_74951 20 = .ok (.iconst 1, 1) := by decide +kernel
theorem dJ13_compare_74951_21 : decode cJ13_compare_74951 21 = .ok (.ireturn, 1) := by decide +kernel
theorem dJ9_floorDiv_f86c9_0 : decode cJ9_floorDiv_f86c9 0 = .ok (.lload_n 0, 1) := by decide +kernel
theorem dJ9_floorDiv_f86c9_1 : decode cJ9_floorDiv_f86c9 1 = .ok (.lload_n 2, 1) := by decide +kernel
theorem dJ9_floorDiv_f86c9_2 : decode cJ9_floorDiv_f86c9 2 = .ok (.ldiv, 1) := by decide +kernel
theorem dJ9_floorDiv_f86c9_3 : decode cJ9_floorDiv_f86c9 3 = .ok (.lstore 4, 2) := by decide +kernel
theorem dJ9_floorDiv_f86c9_5 : decode cJ9_floorDiv_f86c9 5 = .ok (.lload_n 0, 1) := by decide +kernel
theorem dJ9_floorDiv_f86c9_6 : decode cJ9_floorDiv_f86c9 6 = .ok (.lload_n 2, 1) := by decide +kernel
theorem dJ9_floorDiv_f86c9_7 : decode cJ9_floorDiv_f86c9 7 = .ok (.lxor, 1) := by decide +kernel
theorem dJ9_floorDiv_f86c9_8 : decode cJ9_floorDiv_f86c9 8 = .ok (.lconst 0, 1) := by decide +kernel
theorem dJ9_floorDiv_f86c9_9 : decode cJ9_floorDiv_f86c9 9 = .ok (.lcmp, 1) := by decide +kernel
theorem dJ9_floorDiv_f86c9_10 : decode cJ9_floorDiv_f86c9 10 = .ok (.ifCond .ge 17, 3) := by decide +kernel
theorem dJ9_floorDiv_f86c9_13 : decode cJ9_floorDiv_f86c9 13 = .ok (.lload 4, 2) := by decide +kernel
theorem dJ9_floorDiv_f86c9_15 : decode cJ9_floorDiv_f86c9 15 = .ok (.lload_n 2, 1) := by decide +kernel
theorem dJ9_floorDiv_f86c9_16 : decode cJ9_floorDiv_f86c9 16 = .ok (.lmul, 1) := by decide +kernel
theorem dJ9_floorDiv_f86c9_17 : decode cJ9_floorDiv_f86c9 17 = .ok (.lload_n 0, 1) := by decide +kernel
theorem dJ9_floorDiv_f86c9_18 : decode cJ9_floorDiv_f86c9 18 = .ok (.lcmp, 1) := by decide +kernel
theorem dJ9_floorDiv_f86c9_19 : decode cJ9_floorDiv_f86c9 19 = .ok (.ifCond .eq 8, 3) := by decide +kernel
theorem dJ9_floorDiv_f86c9_22 : decode cJ9_floorDiv_f86c9 22 = .ok (.lload 4, 2) := by decide +kernel
theorem dJ9_floorDiv_f86c9_24 : decode cJ9_floorDiv_f86c9 24 = .ok (.lconst 1, 1) := by decide +kernel
theorem dJ9_floorDiv_f86c9_25 : decode cJ9_floorDiv_f86c9 25 = .ok (.lsub, 1) := by decide +kernel
theorem dJ9_floorDiv_f86c9_26 : decode cJ9_floorDiv_f86c9 26 = .ok (.lreturn, 1) := by decide +kernel
theorem dJ9_floorDiv_f86c9_27 : decode cJ9_floorDiv_f86c9 27 = .ok (.lload 4, 2) := by decide +kernel
theorem dJ9_floorDiv_f86c9_29 : decode cJ9_floorDiv_f86c9 29 = .ok (.lreturn, 1) := by decide +kernel
theorem dJ9_floorMod_f86c9_0 : decode cJ9_floorMod_f86c9 0 = .ok (.lload_n 0, 1) := by decide +kernel
theorem dJ9_floorMod_f86c9_1 : decode cJ9_floorMod_f86c9 1 = .ok (.lload_n 2, 1) := by decide +kernel
theorem dJ9_floorMod_f86c9_2 : decode cJ9_floorMod_f86c9 2 = .ok (.lrem, 1) := by decide +kernel
theorem dJ9_floorMod_f86c9_3 : decode cJ9_floorMod_f86c9 3 = .ok (.lstore 4, 2) := by decide +kernel
theorem dJ9_floorMod_f86c9_5 : decode cJ9_floorMod_f86c9 5 = .ok (.lload_n 0, 1) := by decide +kernel
theorem dJ9_floorMod_f86c9_6 : decode cJ9_floorMod_f86c9 6 = .ok (.lload_n 2, 1) := by decide +kernel
theorem dJ9_floorMod_f86c9_7 : decode cJ9_floorMod_f86c9 7 = .ok (.lxor, 1) := by decide +kernel
theorem dJ9_floorMod_f86c9_8 : decode cJ9_floorMod_f86c9 8 = .ok (.lconst 0, 1) := by decide +kernel
theorem dJ9_floorMod_f86c9_9 : decode cJ9_floorMod_f86c9 9 = .ok (.lcmp, 1) := by decide +kernel
theorem dJ9_floorMod_f86c9_10 : decode cJ9_floorMod_f86c9 10 = .ok (.ifCond .ge 15, 3) := by decide +kernel
theorem dJ9_floorMod_f86c9_13 : decode cJ9_floorMod_f86c9 13 = .ok (.lload 4, 2) := by decide +kernel
theorem dJ9_floorMod_f86c9_15 : decode cJ9_floorMod_f86c9 15 = .ok (.lconst 0, 1) := by decide +kernel
theorem dJ9_floorMod_f86c9_16 : decode cJ9_floorMod_f86c9 16 = .ok (.lcmp, 1) := by decide +kernel
theorem dJ9_floorMod_f86c9_17 : decode cJ9_floorMod_f86c9 17 = .ok (.ifCond .eq 8, 3) := by decide +kernel
theorem dJ9_floorMod_f86c9_20 : decode cJ9_floorMod_f86c9 20 = .ok (.lload 4, 2) := by decide +kernel
theorem dJ9_floorMod_f86c9_22 : decode cJ9_floorMod_f86c9 22 = .ok (.lload_n 2, 1) := by decide +kernel
theorem dJ9_floorMod_f86c9_23 : decode cJ9_floorMod_f86c9 23 = .ok (.ladd, 1) := by decide +kernel
theorem dJ9_floorMod_f86c9_24 : decode cJ9_floorMod_f86c9 24 = .ok (.lreturn, 1) := by decide +kernel
theorem dJ9_floorMod_f86c9_25 : decode cJ9_floorMod_f86c9 25 = .ok (.lload 4, 2) := by decide +kernel
theorem dJ9_floorMod_f86c9_27 : decode cJ9_floorMod_f86c9 27 = .ok (.lreturn, 1) := by decide +kernel
theorem dJ9_max_7cf53_0 : decode cJ9_max_7cf53 0 = .ok (.iload_n 0, 1) := by decide +kernel
theorem dJ9_max_7cf53_1 : decode cJ9_max_7cf53 1 = .ok (.iload_n 1, 1) := by decide +kernel
theorem dJ9_max_7cf53_2 : decode cJ9_max_7cf53 2 = .ok (.if_icmp .lt 7, 3) := by decide +kernel
theorem dJ9_max_7cf53_5 : decode cJ9_max_7cf53 5 = .ok (.iload_n 0, 1) := by decide +kernel
theorem dJ9_max_7cf53_6 : decode cJ9_max_7cf53 6 = .ok (.goto 4, 3) := by decide +kernel
theorem dJ9_max_7cf53_9 : decode cJ9_max_7cf53 9 = .ok (.iload_n 1, 1) := by decide +kernel
theorem dJ9_max_7cf53_10 : decode cJ9_max_7cf53 10 = .ok (.ireturn, 1) := by decide +kernel
theorem dJ9_min_7cf53_0 : decode cJ9_min_7cf53 0 = .ok (.iload_n 0, 1) := by decide +kernel
theorem dJ9_min_7cf53_1 : decode cJ9_min_7cf53 1 = .ok (.iload_n 1, 1) := by decide +kernel
theorem dJ9_min_7cf53_2 : decode cJ9_min_7cf53 2 = .ok (.if_icmp .gt 7, 3) := by decide +kernel
theorem dJ9_min_7cf53_5 : decode cJ9_min_7cf53 5 = .ok (.iload_n 0, 1) := by decide +kernel
theorem dJ9_min_7cf53_6 : decode cJ9_min_7cf53 6 = .ok (.goto 4, 3) := by decide +kernel
theorem dJ9_min_7cf53_9 : decode cJ9_min_7cf53 9 = .ok (.iload_n 1, 1) := by decide +kernel
theorem dJ9_min_7cf53_10 : decode cJ9_min_7cf53 10 = .ok (.ireturn, 1) := by decide +kernel
theorem dJ7_fill_d0a16_0 : decode cJ7_fill_d0a16 0 = .ok (.iconst 0, 1) := by decide +kernel
theorem dJ7_fill_d0a16_1 : decode cJ7_fill_d0a16 1 = .ok (.istore_n 3, 1) := by decide +kernel
theorem dJ7_fill_d0a16_2 : decode cJ7_fill_d0a16 2 = .ok (.aload_n 0, 1) := by decide +kernel
theorem dJ7_fill_d0a16_3 : decode cJ7_fill_d0a16 3 = .ok (.arraylength, 1) := by decide +kernel
theorem dJ7_fill_d0a16_4 : decode cJ7_fill_d0a16 4 = .ok (.istore 4, 2) := by decide +kernel
theorem dJ7_fill_d0a16_6 : decode cJ7_fill_d0a16 6 = .ok (.iload_n 3, 1) := by decide +kernel
theorem dJ7_fill_d0a16_7 : decode cJ7_fill_d0a16 7 = .ok (.iload 4, 2) := by decide +kernel
theorem dJ7_fill_d0a16_9 : decode cJ7_fill_d0a16 9 = .ok (.if_icmp .ge 13, 3) := by decide +kernel
theorem dJ7_fill_d0a16_12 : decode cJ7_fill_d0a16 12 = .ok (.aload_n 0, 1) := by decide +kernel
theorem dJ7_fill_d0a16_13 : decode cJ7_fill_d0a16 13 = .ok (.iload_n 3, 1) := by decide +kernel
theorem dJ7_fill_d0a16_14 : decode cJ7_fill_d0a16 14 = .ok (.lload_n 1, 1) := by decide +kernel
theorem dJ7_fill_d0a16_15 : decode cJ7_fill_d0a16 15 = .ok (.lastore, 1) := by decide +kernel
theorem dJ7_fill_d0a16_16 : decode cJ7_fill_d0a16 16 = .ok (.iinc 3 1, 3) := by decide +kernel
theorem dJ7_fill_d0a16_19 : decode cJ7_fill_d0a16 19 = .ok (.goto (-13), 3) := by decide +kernel
theorem dJ7_fill_d0a16_22 : decode cJ7_fill_d0a16 22 = .ok (.return_, 1) := by decide +kernel
theorem dJ7_fill_53178_0 : decode cJ7_fill_53178 0 = .ok (.iconst 0, 1) := by decide +kernel
theorem dJ7_fill_53178_1 : decode cJ7_fill_53178 1 = .ok (.istore_n 2, 1) := by decide +kernel
theorem dJ7_fill_53178_2 : decode cJ7_fill_53178 2 = .ok (.aload_n 0, 1) := by decide +kernel
theorem dJ7_fill_53178_3 : decode cJ7_fill_53178 3 = .ok (.arraylength, 1) := by decide +kernel
theorem dJ7_fill_53178_4 : decode cJ7_fill_53178 4 = .ok (.istore_n 3, 1) := by decide +kernel
theorem dJ7_fill_53178_5 : decode cJ7_fill_53178 5 = .ok (.iload_n 2, 1) := by decide +kernel
theorem dJ7_fill_53178_6 : decode cJ7_fill_53178 6 = .ok (.iload_n 3, 1) := by decide +kernel
theorem dJ7_fill_53178_7 : decode cJ7_fill_53178 7 = .ok (.if_icmp .ge 13, 3) := by decide +kernel
theorem dJ7_fill_53178_10 : decode cJ7_fill_53178 10 = .ok (.aload_n 0, 1) := by decide +kernel
theorem dJ7_fill_53178_11 : decode cJ7_fill_53178 11 = .ok (.iload_n 2, 1) := by decide +kernel
theorem dJ7_fill_53178_12 : decode cJ7_fill_53178 12 = .ok (.iload_n 1, 1) := by decide +kernel
theorem dJ7_fill_53178_13 : decode cJ7_fill_53178 13 = .ok (.iastore, 1) := by decide +kernel
theorem dJ7_fill_53178_14 : decode cJ7_fill_53178 14 = .ok (.iinc 2 1, 3) := by decide +kernel
theorem dJ7_fill_53178_17 : decode cJ7_fill_53178 17 = .ok (.goto (-12), 3) := by decide +kernel
theorem dJ7_fill_53178_20 : decode cJ7_fill_53178 20 = .ok (.return_, 1) := by decide +kernel
theorem dL_law_0 : decode cL_law 0 = .ok (.new 7, 3) := by decide +kernel
theorem dL_law_3 : decode cL_law 3 = .ok (.dup, 1) := by decide +kernel
theorem dL_law_4 : decode cL_law 4 = .ok (.invokespecial 9, 3) := by decide +kernel
theorem dL_law_7 : decode cL_law 7 = .ok (.astore_n 1, 1) := by decide +kernel
theorem dL_law_8 : decode cL_law 8 = .ok (.new 10, 3) := by decide +kernel
theorem dL_law_11 : decode cL_law 11 = .ok (.dup, 1) := by decide +kernel
theorem dL_law_12 : decode cL_law 12 = .ok (.invokespecial 12, 3) := by decide +kernel
theorem dL_law_15 : decode cL_law 15 = .ok (.astore_n 2, 1) := by decide +kernel
theorem dL_law_16 : decode cL_law 16 = .ok (.iconst 0, 1) := by decide +kernel
theorem dL_law_17 : decode cL_law 17 = .ok (.istore_n 3, 1) := by decide +kernel
theorem dL_law_18 : decode cL_law 18 = .ok (.iload_n 3, 1) := by decide +kernel
theorem dL_law_19 : decode cL_law 19 = .ok (.aload_n 0, 1) := by decide +kernel
theorem dL_law_20 : decode cL_law 20 = .ok (.arraylength, 1) := by decide +kernel
theorem dL_law_21 : decode cL_law 21 = .ok (.bipush 6, 2) := by decide +kernel
theorem dL_law_23 : decode cL_law 23 = .ok (.isub, 1) := by decide +kernel
theorem dL_law_24 : decode cL_law 24 = .ok (.if_icmp .gt 800, 3) := by decide +kernel
theorem dL_law_27 : decode cL_law 27 = .ok (.aload_n 0, 1) := by decide +kernel
theorem dL_law_28 : decode cL_law 28 = .ok (.iload_n 3, 1) := by decide +kernel
theorem dL_law_29 : decode cL_law 29 = .ok (.iaload, 1) := by decide +kernel
theorem dL_law_30 : decode cL_law 30 = .ok (.bipush 15, 2) := by decide +kernel
theorem dL_law_32 : decode cL_law 32 = .ok (.iand, 1) := by decide +kernel
theorem dL_law_33 : decode cL_law 33 = .ok (.tableswitch 785 0 15 #[79, 122, 155, 178, 221, 300, 369, 422, 455, 488, 521, 584, 663, 686, 699, 752], 79) := by decide +kernel
theorem dL_law_112 : decode cL_law 112 = .ok (.aload_n 1, 1) := by decide +kernel
theorem dL_law_113 : decode cL_law 113 = .ok (.aload_n 0, 1) := by decide +kernel
theorem dL_law_114 : decode cL_law 114 = .ok (.iload_n 3, 1) := by decide +kernel
theorem dL_law_115 : decode cL_law 115 = .ok (.iconst 1, 1) := by decide +kernel
theorem dL_law_116 : decode cL_law 116 = .ok (.iadd, 1) := by decide +kernel
theorem dL_law_117 : decode cL_law 117 = .ok (.iaload, 1) := by decide +kernel
theorem dL_law_118 : decode cL_law 118 = .ok (.aload_n 0, 1) := by decide +kernel
theorem dL_law_119 : decode cL_law 119 = .ok (.iload_n 3, 1) := by decide +kernel
theorem dL_law_120 : decode cL_law 120 = .ok (.iconst 2, 1) := by decide +kernel
theorem dL_law_121 : decode cL_law 121 = .ok (.iadd, 1) := by decide +kernel
theorem dL_law_122 : decode cL_law 122 = .ok (.iaload, 1) := by decide +kernel
theorem dL_law_123 : decode cL_law 123 = .ok (.aload_n 0, 1) := by decide +kernel
theorem dL_law_124 : decode cL_law 124 = .ok (.iload_n 3, 1) := by decide +kernel
theorem dL_law_125 : decode cL_law 125 = .ok (.iconst 3, 1) := by decide +kernel
theorem dL_law_126 : decode cL_law 126 = .ok (.iadd, 1) := by decide +kernel
theorem dL_law_127 : decode cL_law 127 = .ok (.iaload, 1) := by decide +kernel
theorem dL_law_128 : decode cL_law 128 = .ok (.invokevirtual 13, 3) := by decide +kernel
theorem dL_law_131 : decode cL_law 131 = .ok (.aload_n 2, 1) := by decide +kernel
theorem dL_law_132 : decode cL_law 132 = .ok (.aload_n 0, 1) := by decide +kernel
theorem dL_law_133 : decode cL_law 133 = .ok (.iload_n 3, 1) := by decide +kernel
theorem dL_law_134 : decode cL_law 134 = .ok (.iconst 1, 1) := by decide +kernel
theorem dL_law_135 : decode cL_law 135 = .ok (.iadd, 1) := by decide +kernel
theorem dL_law_136 : decode cL_law 136 = .ok (.iaload, 1) := by decide +kernel
theorem dL_law_137 : decode cL_law 137 = .ok (.aload_n 0, 1) := by decide +kernel
theorem dL_law_138 : decode cL_law 138 = .ok (.iload_n 3, 1) := by decide +kernel
theorem dL_law_139 : decode cL_law 139 = .ok (.iconst 2, 1) := by decide +kernel
theorem dL_law_140 : decode cL_law 140 = .ok (.iadd, 1) := by decide +kernel
theorem dL_law_141 : decode cL_law 141 = .ok (.iaload, 1) := by decide +kernel
theorem dL_law_142 : decode cL_law 142 = .ok (.aload_n 0, 1) := by decide +kernel
theorem dL_law_143 : decode cL_law 143 = .ok (.iload_n 3, 1) := by decide +kernel
theorem dL_law_144 : decode cL_law 144 = .ok (.iconst 3, 1) := by decide +kernel
theorem dL_law_145 : decode cL_law 145 = .ok (.iadd, 1) := by decide +kernel
theorem dL_law_146 : decode cL_law 146 = .ok (.iaload, 1) := by decide +kernel
theorem dL_law_147 : decode cL_law 147 = .ok (.invokevirtual 17, 3) := by decide +kernel
theorem dL_law_150 : decode cL_law 150 = .ok (.if_icmp .eq 668, 3) := by decide +kernel
theorem dL_law_153 : decode cL_law 153 = .ok (.iconst 0, 1) := by decide +kernel
theorem dL_law_154 : decode cL_law 154 = .ok (.ireturn, 1) := by decide +kernel
theorem dL_law_155 : decode cL_law 155 = .ok (.aload_n 1, 1) := by decide +kernel
theorem dL_law_156 : decode cL_law 156 = .ok (.aload_n 0, 1) := by decide +kernel
theorem dL_law_157 : decode cL_law 157 = .ok (.iload_n 3, 1) := by decide +kernel
theorem dL_law_158 : decode cL_law 158 = .ok (.iconst 1, 1) := by decide +kernel
theorem dL_law_159 : decode cL_law 159 = .ok (.iadd, 1) := by decide +kernel
theorem dL_law_160 : decode cL_law 160 = .ok (.iaload, 1) := by decide +kernel
theorem dL_law_161 : decode cL_law 161 = .ok (.aload_n 0, 1) := by decide +kernel
theorem dL_law_162 : decode cL_law 162 = .ok (.iload_n 3, 1) := by decide +kernel
theorem dL_law_163 : decode cL_law 163 = .ok (.iconst 2, 1) := by decide +kernel
theorem dL_law_164 : decode cL_law 164 = .ok (.iadd, 1) := by decide +kernel
theorem dL_law_165 : decode cL_law 165 = .ok (.iaload, 1) := by decide +kernel
theorem dL_law_166 : decode cL_law 166 = .ok (.invokevirtual 18, 3) := by decide +kernel
theorem dL_law_169 : decode cL_law 169 = .ok (.aload_n 2, 1) := by decide +kernel
theorem dL_law_170 : decode cL_law 170 = .ok (.aload_n 0, 1) := by decide +kernel
theorem dL_law_171 : decode cL_law 171 = .ok (.iload_n 3, 1) := by decide +kernel
theorem dL_law_172 : decode cL_law 172 = .ok (.iconst 1, 1) := by decide +kernel
theorem dL_law_173 : decode cL_law 173 = .ok (.iadd, 1) := by decide +kernel
theorem dL_law_174 : decode cL_law 174 = .ok (.iaload, 1) := by decide +kernel
theorem dL_law_175 : decode cL_law 175 = .ok (.aload_n 0, 1) := by decide +kernel
theorem dL_law_176 : decode cL_law 176 = .ok (.iload_n 3, 1) := by decide +kernel
theorem dL_law_177 : decode cL_law 177 = .ok (.iconst 2, 1) := by decide +kernel
theorem dL_law_178 : decode cL_law 178 = .ok (.iadd, 1) := by decide +kernel
theorem dL_law_179 : decode cL_law 179 = .ok (.iaload, 1) := by decide +kernel
theorem dL_law_180 : decode cL_law 180 = .ok (.invokevirtual 22, 3) := by decide +kernel
theorem dL_law_183 : decode cL_law 183 = .ok (.if_icmp .eq 635, 3) := by decide +kernel
theorem dL_law_186 : decode cL_law 186 = .ok (.iconst 0, 1) := by decide +kernel
theorem dL_law_187 : decode cL_law 187 = .ok (.ireturn, 1) := by decide +kernel
theorem dL_law_188 : decode cL_law 188 = .ok (.aload_n 1, 1) := by decide +kernel
theorem dL_law_189 : decode cL_law 189 = .ok (.aload_n 0, 1) := by decide +kernel
theorem dL_law_190 : decode cL_law 190 = .ok (.iload_n 3, 1) := by decide +kernel
theorem dL_law_191 : decode cL_law 191 = .ok (.iconst 1, 1) := by decide +kernel
theorem dL_law_192 : decode cL_law 192 = .ok (.iadd, 1) := by decide +kernel
theorem dL_law_193 : decode cL_law 193 = .ok (.iaload, 1) := by decide +kernel
theorem dL_law_194 : decode cL_law 194 = .ok (.invokevirtual 23, 3) := by decide +kernel
theorem dL_law_197 : decode cL_law 197 = .ok (.aload_n 2, 1) := by decide +kernel
theorem dL_law_198 : decode cL_law 198 = .ok (.aload_n 0, 1) := by decide +kernel
theorem dL_law_199 : decode cL_law 199 = .ok (.iload_n 3, 1) := by decide +kernel
theorem dL_law_200 : decode cL_law 200 = .ok (.iconst 1, 1) := by decide +kernel
theorem dL_law_201 : decode cL_law 201 = .ok (.iadd, 1) := by decide +kernel
theorem dL_law_202 : decode cL_law 202 = .ok (.iaload, 1) := by decide +kernel
theorem dL_law_203 : decode cL_law 203 = .ok (.invokevirtual 27, 3) := by decide +kernel
theorem dL_law_206 : decode cL_law 206 = .ok (.if_icmp .eq 612, 3) := by decide +kernel
theorem dL_law_209 : decode cL_law 209 = .ok (.iconst 0, 1) := by decide +kernel
theorem dL_law_210 : decode cL_law 210 = .ok (.ireturn, 1) := by decide +kernel
theorem dL_law_211 : decode cL_law 211 = .ok (.aload_n 1, 1) := by decide +kernel
theorem dL_law_212 : decode cL_law 212 = .ok (.aload_n 0, 1) := by decide +kernel
theorem dL_law_213 : decode cL_law 213 = .ok (.iload_n 3, 1) := by decide +kernel
theorem dL_law_214 : decode cL_law 214 = .ok (.iconst 1, 1) := by decide +kernel
theorem dL_law_215 : decode cL_law 215 = .ok (.iadd, 1) := by decide +kernel
theorem dL_law_216 : decode cL_law 216 = .ok (.iaload, 1) := by decide +kernel
theorem dL_law_217 : decode cL_law 217 = .ok (.aload_n 0, 1) := by decide +kernel
theorem dL_law_218 : decode cL_law 218 = .ok (.iload_n 3, 1) := by decide +kernel
theorem dL_law_219 : decode cL_law 219 = .ok (.iconst 2, 1) := by decide +kernel
theorem dL_law_220 : decode cL_law 220 = .ok (.iadd, 1) := by decide +kernel
theorem dL_law_221 : decode cL_law 221 = .ok (.iaload, 1) := by decide +kernel
theorem dL_law_222 : decode cL_law 222 = .ok (.aload_n 0, 1) := by decide +kernel
theorem dL_law_223 : decode cL_law 223 = .ok (.iload_n 3, 1) := by decide +kernel
theorem dL_law_224 : decode cL_law 224 = .ok (.iconst 3, 1) := by decide +kernel
theorem dL_law_225 : decode cL_law 225 = .ok (.iadd, 1) := by decide +kernel
theorem dL_law_226 : decode cL_law 226 = .ok (.iaload, 1) := by decide +kernel
theorem dL_law_227 : decode cL_law 227 = .ok (.invokevirtual 28, 3) := by decide +kernel
theorem dL_law_230 : decode cL_law 230 = .ok (.aload_n 2, 1) := by decide +kernel
theorem dL_law_231 : decode cL_law 231 = .ok (.aload_n 0, 1) := by decide +kernel
theorem dL_law_232 : decode cL_law 232 = .ok (.iload_n 3, 1) := by decide +kernel
theorem dL_law_233 : decode cL_law 233 = .ok (.iconst 1, 1) := by decide +kernel
theorem dL_law_234 : decode cL_law 234 = .ok (.iadd, 1) := by decide +kernel
theorem dL_law_235 : decode cL_law 235 = .ok (.iaload, 1) := by decide +kernel
theorem dL_law_236 : decode cL_law 236 = .ok (.aload_n 0, 1) := by decide +kernel
theorem dL_law_237 : decode cL_law 237 = .ok (.iload_n 3, 1) := by decide +kernel
theorem dL_law_238 : decode cL_law 238 = .ok (.iconst 2, 1) := by decide +kernel
theorem dL_law_239 : decode cL_law 239 = .ok (.iadd, 1) := by decide +kernel
theorem dL_law_240 : decode cL_law 240 = .ok (.iaload, 1) := by decide +kernel
theorem dL_law_241 : decode cL_law 241 = .ok (.aload_n 0, 1) := by decide +kernel
theorem dL_law_242 : decode cL_law 242 = .ok (.iload_n 3, 1) := by decide +kernel
theorem dL_law_243 : decode cL_law 243 = .ok (.iconst 3, 1) := by decide +kernel
theorem dL_law_244 : decode cL_law 244 = .ok (.iadd, 1) := by decide +kernel
theorem dL_law_245 : decode cL_law 245 = .ok (.iaload, 1) := by decide +kernel
theorem dL_law_246 : decode cL_law 246 = .ok (.invokevirtual 32, 3) := by decide +kernel
theorem dL_law_249 : decode cL_law 249 = .ok (.if_icmp .eq 569, 3) := by decide +kernel
theorem dL_law_252 : decode cL_law 252 = .ok (.iconst 0, 1) := by decide +kernel
theorem dL_law_253 : decode cL_law 253 = .ok (.ireturn, 1) := by decide +kernel
theorem dL_law_254 : decode cL_law 254 = .ok (.aload_n 1, 1) := by decide +kernel
theorem dL_law_255 : decode cL_law 255 = .ok (.aload_n 0, 1) := by decide +kernel
theorem dL_law_256 : decode cL_law 256 = .ok (.iload_n 3, 1) := by decide +kernel
theorem dL_law_257 : decode cL_law 257 = .ok (.iconst 1, 1) := by decide +kernel
theorem dL_law_258 : decode cL_law 258 = .ok (.iadd, 1) := by decide +kernel
theorem dL_law_259 : decode cL_law 259 = .ok (.iaload, 1) := by decide +kernel
theorem dL_law_260 : decode cL_law 260 = .ok (.aload_n 0, 1) := by decide +kernel
theorem dL_law_261 : decode cL_law 261 = .ok (.iload_n 3, 1) := by decide +kernel
theorem dL_law_262 : decode cL_law 262 = .ok (.iconst 2, 1) := by decide +kernel
theorem dL_law_263 : decode cL_law 263 = .ok (.iadd, 1) := by decide +kernel
theorem dL_law_264 : decode cL_law 264 = .ok (.iaload, 1) := by decide +kernel
theorem dL_law_265 : decode cL_law 265 = .ok (.aload_n 0, 1) := by decide +kernel
theorem dL_law_266 : decode cL_law 266 = .ok (.iload_n 3, 1) := by decide +kernel
theorem dL_law_267 : decode cL_law 267 = .ok (.iconst 3, 1) := by decide +kernel
theorem dL_law_268 : decode cL_law 268 = .ok (.iadd, 1) := by decide +kernel
theorem dL_law_269 : decode cL_law 269 = .ok (.iaload, 1) := by decide +kernel
theorem dL_law_270 : decode cL_law 270 = .ok (.aload_n 0, 1) := by decide +kernel
theorem dL_law_271 : decode cL_law 271 = .ok (.iload_n 3, 1) := by decide +kernel
theorem dL_law_272 : decode cL_law 272 = .ok (.iconst 4, 1) := by decide +kernel
theorem dL_law_273 : decode cL_law 273 = .ok (.iadd, 1) := by decide +kernel
theorem dL_law_274 : decode cL_law 274 = .ok (.iaload, 1) := by decide +kernel
theorem dL_law_275 : decode cL_law 275 = .ok (.ifCond .eq 7, 3) := by decide +kernel
theorem dL_law_278 : decode cL_law 278 = .ok (.iconst 1, 1) := by decide +kernel
theorem dL_law_279 : decode cL_law 279 = .ok (.goto 4, 3) := by decide +kernel
theorem dL_law_282 : decode cL_law 282 = .ok (.iconst 0, 1) := by decide +kernel
theorem dL_law_283 : decode cL_law 283 = .ok (.aload_n 0, 1) := by decide +kernel
theorem dL_law_284 : decode cL_law 284 = .ok (.iload_n 3, 1) := by decide +kernel
theorem dL_law_285 : decode cL_law 285 = .ok (.iconst 5, 1) := by decide +kernel
theorem dL_law_286 : decode cL_law 286 = .ok (.iadd, 1) := by decide +kernel
theorem dL_law_287 : decode cL_law 287 = .ok (.iaload, 1) := by decide +kernel
theorem dL_law_288 : decode cL_law 288 = .ok (.invokevirtual 33, 3) := by decide +kernel
theorem dL_law_291 : decode cL_law 291 = .ok (.aload_n 2, 1) := by decide +kernel
theorem dL_law_292 : decode cL_law 292 = .ok (.aload_n 0, 1) := by decide +kernel
theorem dL_law_293 : decode cL_law 293 = .ok (.iload_n 3, 1) := by decide +kernel
theorem dL_law_294 : decode cL_law 294 = .ok (.iconst 1, 1) := by decide +kernel
theorem dL_law_295 : decode cL_law 295 = .ok (.iadd, 1) := by decide +kernel
theorem dL_law_296 : decode cL_law 296 = .ok (.iaload, 1) := by decide +kernel
theorem dL_law_297 : decode cL_law 297 = .ok (.aload_n 0, 1) := by decide +kernel
theorem dL_law_298 : decode cL_law 298 = .ok (.iload_n 3, 1) := by decide +kernel
theorem dL_law_299 : decode cL_law 299 = .ok (.iconst 2, 1) := by decide +kernel
theorem dL_law_300 : decode cL_law 300 = .ok (.iadd, 1) := by decide +kernel
theorem dL_law_301 : decode cL_law 301 = .ok (.iaload, 1) := by decide +kernel
theorem dL_law_302 : decode cL_law 302 = .ok (.aload_n 0, 1) := by decide +kernel
theorem dL_law_303 : decode cL_law 303 = .ok (.iload_n 3, 1) := by decide +kernel
theorem dL_law_304 : decode cL_law 304 = .ok (.iconst 3, 1) := by decide +kernel
theorem dL_law_305 : decode cL_law 305 = .ok (.iadd, 1) := by decide +kernel
theorem dL_law_306 : decode cL_law 306 = .ok (.iaload, 1) := by decide +kernel
theorem dL_law_307 : decode cL_law 307 = .ok (.aload_n 0, 1) := by decide +kernel
theorem dL_law_308 : decode cL_law 308 = .ok (.iload_n 3, 1) := by decide +kernel
theorem dL_law_309 : decode cL_law 309 = .ok (.iconst 4, 1) := by decide +kernel
theorem dL_law_310 : decode cL_law 310 = .ok (.iadd, 1) := by decide +kernel
theorem dL_law_311 : decode cL_law 311 = .ok (.iaload, 1) := by decide +kernel
theorem dL_law_312 : decode cL_law 312 = .ok (.ifCond .eq 7, 3) := by decide +kernel
theorem dL_law_315 : decode cL_law 315 = .ok (.iconst 1, 1) := by decide +kernel
theorem dL_law_316 : decode cL_law 316 = .ok (.goto 4, 3) := by decide +kernel
theorem dL_law_319 : decode cL_law 319 = .ok (.iconst 0, 1) := by decide +kernel
theorem dL_law_320 : decode cL_law 320 = .ok (.aload_n 0, 1) := by decide +kernel
theorem dL_law_321 : decode cL_law 321 = .ok (.iload_n 3, 1) := by decide +kernel
theorem dL_law_322 : decode cL_law 322 = .ok (.iconst 5, 1) := by decide +kernel
theorem dL_law_323 : decode cL_law 323 = .ok (.iadd, 1) := by decide +kernel
theorem dL_law_324 : decode cL_law 324 = .ok (.iaload, 1) := by decide +kernel
theorem dL_law_325 : decode cL_law 325 = .ok (.invokevirtual 37, 3) := by decide +kernel
theorem dL_law_328 : decode cL_law 328 = .ok (.if_icmp .eq 490, 3) := by decide +kernel
theorem dL_law_331 : decode cL_law 331 = .ok (.iconst 0, 1) := by decide +kernel
theorem dL_law_332 : decode cL_law 332 = .ok (.ireturn, 1) := by decide +kernel
theorem dL_law_333 : decode cL_law 333 = .ok (.aload_n 1, 1) := by decide +kernel
theorem dL_law_334 : decode cL_law 334 = .ok (.aload_n 0, 1) := by decide +kernel
theorem dL_law_335 : decode cL_law 335 = .ok (.iload_n 3, 1) := by decide +kernel
theorem dL_law_336 : decode cL_law 336 = .ok (.iconst 1, 1) := by decide +kernel
theorem dL_law_337 : decode cL_law 337 = .ok (.iadd, 1) := by decide +kernel
theorem dL_law_338 : decode cL_law 338 = .ok (.iaload, 1) := by decide +kernel
theorem dL_law_339 : decode cL_law 339 = .ok (.aload_n 0, 1) := by decide +kernel
theorem dL_law_340 : decode cL_law 340 = .ok (.iload_n 3, 1) := by decide +kernel
theorem dL_law_341 : decode cL_law 341 = .ok (.iconst 2, 1) := by decide +kernel
theorem dL_law_342 : decode cL_law 342 = .ok (.iadd, 1) := by decide +kernel
theorem dL_law_343 : decode cL_law 343 = .ok (.iaload, 1) := by decide +kernel
theorem dL_law_344 : decode cL_law 344 = .ok (.aload_n 0, 1) := by decide +kernel
theorem dL_law_345 : decode cL_law 345 = .ok (.iload_n 3, 1) := by decide +kernel
theorem dL_law_346 : decode cL_law 346 = .ok (.iconst 3, 1) := by decide +kernel
theorem dL_law_347 : decode cL_law 347 = .ok (.iadd, 1) := by decide +kernel
theorem dL_law_348 : decode cL_law 348 = .ok (.iaload, 1) := by decide +kernel
theorem dL_law_349 : decode cL_law 349 = .ok (.ifCond .eq 7, 3) := by decide +kernel
theorem dL_law_352 : decode cL_law 352 = .ok (.iconst 1, 1) := by decide +kernel
theorem dL_law_353 : decode cL_law 353 = .ok (.goto 4, 3) := by decide +kernel
theorem dL_law_356 : decode cL_law 356 = .ok (.iconst 0, 1) := by decide +kernel
theorem dL_law_357 : decode cL_law 357 = .ok (.aload_n 0, 1) := by decide +kernel
theorem dL_law_358 : decode cL_law 358 = .ok (.iload_n 3, 1) := by decide +kernel
theorem dL_law_359 : decode cL_law 359 = .ok (.iconst 4, 1) := by decide +kernel
theorem dL_law_360 : decode cL_law 360 = .ok (.iadd, 1) := by decide +kernel
theorem dL_law_361 : decode cL_law 361 = .ok (.iaload, 1) := by decide +kernel
theorem dL_law_362 : decode cL_law 362 = .ok (.invokevirtual 38, 3) := by decide +kernel
theorem dL_law_365 : decode cL_law 365 = .ok (.aload_n 2, 1) := by decide +kernel
theorem dL_law_366 : decode cL_law 366 = .ok (.aload_n 0, 1) := by decide +kernel
theorem dL_law_367 : decode cL_law 367 = .ok (.iload_n 3, 1) := by decide +kernel
theorem dL_law_368 : decode cL_law 368 = .ok (.iconst 1, 1) := by decide +kernel
theorem dL_law_369 : decode cL_law 369 = .ok (.iadd, 1) := by decide +kernel
theorem dL_law_370 : decode cL_law 370 = .ok (.iaload, 1) := by decide +kernel
theorem dL_law_371 : decode cL_law 371 = .ok (.aload_n 0, 1) := by decide +kernel
theorem dL_law_372 : decode cL_law 372 = .ok (.iload_n 3, 1) := by decide +kernel
theorem dL_law_373 : decode cL_law 373 = .ok (.iconst 2, 1) := by decide +kernel
theorem dL_law_374 : decode cL_law 374 = .ok (.iadd, 1) := by decide +kernel
theorem dL_law_375 : decode cL_law 375 = .ok (.iaload, 1) := by decide +kernel
theorem dL_law_376 : decode cL_law 376 = .ok (.aload_n 0, 1) := by decide +kernel
theorem dL_law_377 : decode cL_law 377 = .ok (.iload_n 3, 1) := by decide +kernel
theorem dL_law_378 : decode cL_law 378 = .ok (.iconst 3, 1) := by decide +kernel
theorem dL_law_379 : decode cL_law 379 = .ok (.iadd, 1) := by decide +kernel
theorem dL_law_380 : decode cL_law 380 = .ok (.iaload, 1) := by decide +kernel
theorem dL_law_381 : decode cL_law 381 = .ok (.ifCond .eq 7, 3) := by decide +kernel
theorem dL_law_384 : decode cL_law 384 = .ok (.iconst 1, 1) := by decide +kernel
theorem dL_law_385 : decode cL_law 385 = .ok (.goto 4, 3) := by decide +kernel
theorem dL_law_388 : decode cL_law 388 = .ok (.iconst 0, 1) := by decide +kernel
theorem dL_law_389 : decode cL_law 389 = .ok (.aload_n 0, 1) := by decide +kernel
theorem dL_law_390 : decode cL_law 390 = .ok (.iload_n 3, 1) := by decide +kernel
theorem dL_law_391 : decode cL_law 391 = .ok (.iconst 4, 1) := by decide +kernel
theorem dL_law_392 : decode cL_law 392 = .ok (.iadd, 1) := by decide +kernel
theorem dL_law_393 : decode cL_law 393 = .ok (.iaload, 1) := by decide +kernel
theorem dL_law_394 : decode cL_law 394 = .ok (.invokevirtual 42, 3) := by decide +kernel
theorem dL_law_397 : decode cL_law 397 = .ok (.if_icmp .eq 421, 3) := by decide +kernel
theorem dL_law_400 : decode cL_law 400 = .ok (.iconst 0, 1) := by decide +kernel
theorem dL_law_401 : decode cL_law 401 = .ok (.ireturn, 1) := by decide +kernel
theorem dL_law_402 : decode cL_law 402 = .ok (.aload_n 1, 1) := by decide +kernel
theorem dL_law_403 : decode cL_law 403 = .ok (.aload_n 0, 1) := by decide +kernel
theorem dL_law_404 : decode cL_law 404 = .ok (.iload_n 3, 1) := by decide +kernel
theorem dL_law_405 : decode cL_law 405 = .ok (.iconst 1, 1) := by decide +kernel
theorem dL_law_406 : decode cL_law 406 = .ok (.iadd, 1) := by decide +kernel
theorem dL_law_407 : decode cL_law 407 = .ok (.iaload, 1) := by decide +kernel
theorem dL_law_408 : decode cL_law 408 = .ok (.aload_n 0, 1) := by decide +kernel
theorem dL_law_409 : decode cL_law 409 = .ok (.iload_n 3, 1) := by decide +kernel
theorem dL_law_410 : decode cL_law 410 = .ok (.iconst 2, 1) := by decide +kernel
theorem dL_law_411 : decode cL_law 411 = .ok (.iadd, 1) := by decide +kernel
theorem dL_law_412 : decode cL_law 412 = .ok (.iaload, 1) := by decide +kernel
theorem dL_law_413 : decode cL_law 413 = .ok (.aload_n 0, 1) := by decide +kernel
theorem dL_law_414 : decode cL_law 414 = .ok (.iload_n 3, 1) := by decide +kernel
theorem dL_law_415 : decode cL_law 415 = .ok (.iconst 3, 1) := by decide +kernel
theorem dL_law_416 : decode cL_law 416 = .ok (.iadd, 1) := by decide +kernel
theorem dL_law_417 : decode cL_law 417 = .ok (.iaload, 1) := by decide +kernel
theorem dL_law_418 : decode cL_law 418 = .ok (.aload_n 0, 1) := by decide +kernel
theorem dL_law_419 : decode cL_law 419 = .ok (.iload_n 3, 1) := by decide +kernel
theorem dL_law_420 : decode cL_law 420 = .ok (.iconst 4, 1) := by decide +kernel
theorem dL_law_421 : decode cL_law 421 = .ok (.iadd, 1) := by decide +kernel
theorem dL_law_422 : decode cL_law 422 = .ok (.iaload, 1) := by decide +kernel
theorem dL_law_423 : decode cL_law 423 = .ok (.invokevirtual 43, 3) := by decide +kernel
theorem dL_law_426 : decode cL_law 426 = .ok (.aload_n 2, 1) := by decide +kernel
theorem dL_law_427 : decode cL_law 427 = .ok (.aload_n 0, 1) := by decide +kernel
theorem dL_law_428 : decode cL_law 428 = .ok (.iload_n 3, 1) := by decide +kernel
theorem dL_law_429 : decode cL_law 429 = .ok (.iconst 1, 1) := by decide +kernel
theorem dL_law_430 : decode cL_law 430 = .ok (.iadd, 1) := by decide +kernel
theorem dL_law_431 : decode cL_law 431 = .ok (.iaload, 1) := by decide +kernel
theorem dL_law_432 : decode cL_law 432 = .ok (.aload_n 0, 1) := by decide +kernel
theorem dL_law_433 : decode cL_law 433 = .ok (.iload_n 3, 1) := by decide +kernel
theorem dL_law_434 : decode cL_law 434 = .ok (.iconst 2, 1) := by decide +kernel
theorem dL_law_435 : decode cL_law 435 = .ok (.iadd, 1) := by decide +kernel
theorem dL_law_436 : decode cL_law 436 = .ok (.iaload, 1) := by decide +kernel
theorem dL_law_437 : decode cL_law 437 = .ok (.aload_n 0, 1) := by decide +kernel
theorem dL_law_438 : decode cL_law 438 = .ok (.iload_n 3, 1) := by decide +kernel
theorem dL_law_439 : decode cL_law 439 = .ok (.iconst 3, 1) := by decide +kernel
theorem dL_law_440 : decode cL_law 440 = .ok (.iadd, 1) := by decide +kernel
theorem dL_law_441 : decode cL_law 441 = .ok (.iaload, 1) := by decide +kernel
theorem dL_law_442 : decode cL_law 442 = .ok (.aload_n 0, 1) := by decide +kernel
theorem dL_law_443 : decode cL_law 443 = .ok (.iload_n 3, 1) := by decide +kernel
theorem dL_law_444 : decode cL_law 444 = .ok (.iconst 4, 1) := by decide +kernel
theorem dL_law_445 : decode cL_law 445 = .ok (.iadd, 1) := by decide +kernel
theorem dL_law_446 : decode cL_law 446 = .ok (.iaload, 1) := by decide +kernel
theorem dL_law_447 : decode cL_law 447 = .ok (.invokevirtual 47, 3) := by decide +kernel
theorem dL_law_450 : decode cL_law 450 = .ok (.if_icmp .eq 368, 3) := by decide +kernel
theorem dL_law_453 : decode cL_law 453 = .ok (.iconst 0, 1) := by decide +kernel
theorem dL_law_454 : decode cL_law 454 = .ok (.ireturn, 1) := by decide +kernel
theorem dL_law_455 : decode cL_law 455 = .ok (.aload_n 1, 1) := by decide +kernel
theorem dL_law_456 : decode cL_law 456 = .ok (.aload_n 0, 1) := by decide +kernel
theorem dL_law_457 : decode cL_law 457 = .ok (.iload_n 3, 1) := by decide +kernel
theorem dL_law_458 : decode cL_law 458 = .ok (.iconst 1, 1) := by decide +kernel
theorem dL_law_459 : decode cL_law 459 = .ok (.iadd, 1) := by decide +kernel
theorem dL_law_460 : decode cL_law 460 = .ok (.iaload, 1) := by decide +kernel
theorem dL_law_461 : decode cL_law 461 = .ok (.aload_n 0, 1) := by decide +kernel
theorem dL_law_462 : decode cL_law 462 = .ok (.iload_n 3, 1) := by decide +kernel
theorem dL_law_463 : decode cL_law 463 = .ok (.iconst 2, 1) := by decide +kernel
theorem dL_law_464 : decode cL_law 464 = .ok (.iadd, 1) := by decide +kernel
theorem dL_law_465 : decode cL_law 465 = .ok (.iaload, 1) := by decide +kernel
theorem dL_law_466 : decode cL_law 466 = .ok (.invokevirtual 48, 3) := by decide +kernel
theorem dL_law_469 : decode cL_law 469 = .ok (.aload_n 2, 1) := by decide +kernel
theorem dL_law_470 : decode cL_law 470 = .ok (.aload_n 0, 1) := by decide +kernel
theorem dL_law_471 : decode cL_law 471 = .ok (.iload_n 3, 1) := by decide +kernel
theorem dL_law_472 : decode cL_law 472 = .ok (.iconst 1, 1) := by decide +kernel
theorem dL_law_473 : decode cL_law 473 = .ok (.iadd, 1) := by decide +kernel
theorem dL_law_474 : decode cL_law 474 = .ok (.iaload, 1) := by decide +kernel
theorem dL_law_475 : decode cL_law 475 = .ok (.aload_n 0, 1) := by decide +kernel
theorem dL_law_476 : decode cL_law 476 = .ok (.iload_n 3, 1) := by decide +kernel
theorem dL_law_477 : decode cL_law 477 = .ok (.iconst 2, 1) := by decide +kernel
theorem dL_law_478 : decode cL_law 478 = .ok (.iadd, 1) := by decide +kernel
theorem dL_law_479 : decode cL_law 479 = .ok (.iaload, 1) := by decide +kernel
theorem dL_law_480 : decode cL_law 480 = .ok (.invokevirtual 51, 3) := by decide +kernel
theorem dL_law_483 : decode cL_law 483 = .ok (.if_icmp .eq 335, 3) := by decide +kernel
theorem dL_law_486 : decode cL_law 486 = .ok (.iconst 0, 1) := by decide +kernel
theorem dL_law_487 : decode cL_law 487 = .ok (.ireturn, 1) := by decide +kernel
theorem dL_law_488 : decode cL_law 488 = .ok (.aload_n 1, 1) := by decide +kernel
theorem dL_law_489 : decode cL_law 489 = .ok (.aload_n 0, 1) := by decide +kernel
theorem dL_law_490 : decode cL_law 490 = .ok (.iload_n 3, 1) := by decide +kernel
theorem dL_law_491 : decode cL_law 491 = .ok (.iconst 1, 1) := by decide +kernel
theorem dL_law_492 : decode cL_law 492 = .ok (.iadd, 1) := by decide +kernel
theorem dL_law_493 : decode cL_law 493 = .ok (.iaload, 1) := by decide +kernel
theorem dL_law_494 : decode cL_law 494 = .ok (.aload_n 0, 1) := by decide +kernel
theorem dL_law_495 : decode cL_law 495 = .ok (.iload_n 3, 1) := by decide +kernel
theorem dL_law_496 : decode cL_law 496 = .ok (.iconst 2, 1) := by decide +kernel
theorem dL_law_497 : decode cL_law 497 = .ok (.iadd, 1) := by decide +kernel
theorem dL_law_498 : decode cL_law 498 = .ok (.iaload, 1) := by decide +kernel
theorem dL_law_499 : decode cL_law 499 = .ok (.invokevirtual 52, 3) := by decide +kernel
theorem dL_law_502 : decode cL_law 502 = .ok (.aload_n 2, 1) := by decide +kernel
theorem dL_law_503 : decode cL_law 503 = .ok (.aload_n 0, 1) := by decide +kernel
theorem dL_law_504 : decode cL_law 504 = .ok (.iload_n 3, 1) := by decide +kernel
theorem dL_law_505 : decode cL_law 505 = .ok (.iconst 1, 1) := by decide +kernel
theorem dL_law_506 : decode cL_law 506 = .ok (.iadd, 1) := by decide +kernel
theorem dL_law_507 : decode cL_law 507 = .ok (.iaload, 1) := by decide +kernel
theorem dL_law_508 : decode cL_law 508 = .ok (.aload_n 0, 1) := by decide +kernel
theorem dL_law_509 : decode cL_law 509 = .ok (.iload_n 3, 1) := by decide +kernel
theorem dL_law_510 : decode cL_law 510 = .ok (.iconst 2, 1) := by decide +kernel
theorem dL_law_511 : decode cL_law 511 = .ok (.iadd, 1) := by decide +kernel
theorem dL_law_512 : decode cL_law 512 = .ok (.iaload, 1) := by decide +kernel
theorem dL_law_513 : decode cL_law 513 = .ok (.invokevirtual 55, 3) := by decide +kernel
theorem dL_law_516 : decode cL_law 516 = .ok (.if_icmp .eq 302, 3) := by decide +kernel
theorem dL_law_519 : decode cL_law 519 = .ok (.iconst 0, 1) := by decide +kernel
theorem dL_law_520 : decode cL_law 520 = .ok (.ireturn, 1) := by decide +kernel
theorem dL_law_521 : decode cL_law 521 = .ok (.aload_n 1, 1) := by decide +kernel
theorem dL_law_522 : decode cL_law 522 = .ok (.aload_n 0, 1) := by decide +kernel
theorem dL_law_523 : decode cL_law 523 = .ok (.iload_n 3, 1) := by decide +kernel
theorem dL_law_524 : decode cL_law 524 = .ok (.iconst 1, 1) := by decide +kernel
theorem dL_law_525 : decode cL_law 525 = .ok (.iadd, 1) := by decide +kernel
theorem dL_law_526 : decode cL_law 526 = .ok (.iaload, 1) := by decide +kernel
theorem dL_law_527 : decode cL_law 527 = .ok (.aload_n 0, 1) := by decide +kernel
theorem dL_law_528 : decode cL_law 528 = .ok (.iload_n 3, 1) := by decide +kernel
theorem dL_law_529 : decode cL_law 529 = .ok (.iconst 2, 1) := by decide +kernel
theorem dL_law_530 : decode cL_law 530 = .ok (.iadd, 1) := by decide +kernel
theorem dL_law_531 : decode cL_law 531 = .ok (.iaload, 1) := by decide +kernel
theorem dL_law_532 : decode cL_law 532 = .ok (.invokevirtual 56, 3) := by decide +kernel
theorem dL_law_535 : decode cL_law 535 = .ok (.aload_n 2, 1) := by decide +kernel
theorem dL_law_536 : decode cL_law 536 = .ok (.aload_n 0, 1) := by decide +kernel
theorem dL_law_537 : decode cL_law 537 = .ok (.iload_n 3, 1) := by decide +kernel
theorem dL_law_538 : decode cL_law 538 = .ok (.iconst 1, 1) := by decide +kernel
theorem dL_law_539 : decode cL_law 539 = .ok (.iadd, 1) := by decide +kernel
theorem dL_law_540 : decode cL_law 540 = .ok (.iaload, 1) := by decide +kernel
theorem dL_law_541 : decode cL_law 541 = .ok (.aload_n 0, 1) := by decide +kernel
theorem dL_law_542 : decode cL_law 542 = .ok (.iload_n 3, 1) := by decide +kernel
theorem dL_law_543 : decode cL_law 543 = .ok (.iconst 2, 1) := by decide +kernel
theorem dL_law_544 : decode cL_law 544 = .ok (.iadd, 1) := by decide +kernel
theorem dL_law_545 : decode cL_law 545 = .ok (.iaload, 1) := by decide +kernel
theorem dL_law_546 : decode cL_law 546 = .ok (.invokevirtual 60, 3) := by decide +kernel
theorem dL_law_549 : decode cL_law 549 = .ok (.if_icmp .eq 269, 3) := by decide +kernel
theorem dL_law_552 : decode cL_law 552 = .ok (.iconst 0, 1) := by decide +kernel
theorem dL_law_553 : decode cL_law 553 = .ok (.ireturn, 1) := by decide +kernel
theorem dL_law_554 : decode cL_law 554 = .ok (.aload_n 1, 1) := by decide +kernel
theorem dL_law_555 : decode cL_law 555 = .ok (.aload_n 0, 1) := by decide +kernel
theorem dL_law_556 : decode cL_law 556 = .ok (.iload_n 3, 1) := by decide +kernel
theorem dL_law_557 : decode cL_law 557 = .ok (.iconst 1, 1) := by decide +kernel
theorem dL_law_558 : decode cL_law 558 = .ok (.iadd, 1) := by decide +kernel
theorem dL_law_559 : decode cL_law 559 = .ok (.iaload, 1) := by decide +kernel
theorem dL_law_560 : decode cL_law 560 = .ok (.aload_n 0, 1) := by decide +kernel
theorem dL_law_561 : decode cL_law 561 = .ok (.iload_n 3, 1) := by decide +kernel
theorem dL_law_562 : decode cL_law 562 = .ok (.iconst 2, 1) := by decide +kernel
theorem dL_law_563 : decode cL_law 563 = .ok (.iadd, 1) := by decide +kernel
theorem dL_law_564 : decode cL_law 564 = .ok (.iaload, 1) := by decide +kernel
theorem dL_law_565 : decode cL_law 565 = .ok (.aload_n 0, 1) := by decide +kernel
theorem dL_law_566 : decode cL_law 566 = .ok (.iload_n 3, 1) := by decide +kernel
theorem dL_law_567 : decode cL_law 567 = .ok (.iconst 3, 1) := by decide +kernel
theorem dL_law_568 : decode cL_law 568 = .ok (.iadd, 1) := by decide +kernel
theorem dL_law_569 : decode cL_law 569 = .ok (.iaload, 1) := by decide +kernel
theorem dL_law_570 : decode cL_law 570 = .ok (.aload_n 0, 1) := by decide +kernel
theorem dL_law_571 : decode cL_law 571 = .ok (.iload_n 3, 1) := by decide +kernel
theorem dL_law_572 : decode cL_law 572 = .ok (.iconst 4, 1) := by decide +kernel
theorem dL_law_573 : decode cL_law 573 = .ok (.iadd, 1) := by decide +kernel
theorem dL_law_574 : decode cL_law 574 = .ok (.iaload, 1) := by decide +kernel
theorem dL_law_575 : decode cL_law 575 = .ok (.aload_n 0, 1) := by decide +kernel
theorem dL_law_576 : decode cL_law 576 = .ok (.iload_n 3, 1) := by decide +kernel
theorem dL_law_577 : decode cL_law 577 = .ok (.iconst 5, 1) := by decide +kernel
theorem dL_law_578 : decode cL_law 578 = .ok (.iadd, 1) := by decide +kernel
theorem dL_law_579 : decode cL_law 579 = .ok (.iaload, 1) := by decide +kernel
theorem dL_law_580 : decode cL_law 580 = .ok (.invokevirtual 61, 3) := by decide +kernel
theorem dL_law_583 : decode cL_law 583 = .ok (.aload_n 2, 1) := by decide +kernel
theorem dL_law_584 : decode cL_law 584 = .ok (.aload_n 0, 1) := by decide +kernel
theorem dL_law_585 : decode cL_law 585 = .ok (.iload_n 3, 1) := by decide +kernel
theorem dL_law_586 : decode cL_law 586 = .ok (.iconst 1, 1) := by decide +kernel
theorem dL_law_587 : decode cL_law 587 = .ok (.iadd, 1) := by decide +kernel
theorem dL_law_588 : decode cL_law 588 = .ok (.iaload, 1) := by decide +kernel
theorem dL_law_589 : decode cL_law 589 = .ok (.aload_n 0, 1) := by decide +kernel
theorem dL_law_590 : decode cL_law 590 = .ok (.iload_n 3, 1) := by decide +kernel
theorem dL_law_591 : decode cL_law 591 = .ok (.iconst 2, 1) := by decide +kernel
theorem dL_law_592 : decode cL_law 592 = .ok (.iadd, 1) := by decide +kernel
theorem dL_law_593 : decode cL_law 593 = .ok (.iaload, 1) := by decide +kernel
theorem dL_law_594 : decode cL_law 594 = .ok (.aload_n 0, 1) := by decide +kernel
theorem dL_law_595 : decode cL_law 595 = .ok (.iload_n 3, 1) := by decide +kernel
theorem dL_law_596 : decode cL_law 596 = .ok (.iconst 3, 1) := by decide +kernel
theorem dL_law_597 : decode cL_law 597 = .ok (.iadd, 1) := by decide +kernel
theorem dL_law_598 : decode cL_law 598 = .ok (.iaload, 1) := by decide +kernel
theorem dL_law_599 : decode cL_law 599 = .ok (.aload_n 0, 1) := by decide +kernel
theorem dL_law_600 : decode cL_law 600 = .ok (.iload_n 3, 1) := by decide +kernel
theorem dL_law_601 : decode cL_law 601 = .ok (.iconst 4, 1) := by decide +kernel
theorem dL_law_602 : decode cL_law 602 = .ok (.iadd, 1) := by decide +kernel
theorem dL_law_603 : decode cL_law 603 = .ok (.iaload, 1) := by decide +kernel
theorem dL_law_604 : decode cL_law 604 = .ok (.aload_n 0, 1) := by decide +kernel
theorem dL_law_605 : decode cL_law 605 = .ok (.iload_n 3, 1) := by decide +kernel
theorem dL_law_606 : decode cL_law 606 = .ok (.iconst 5, 1) := by decide +kernel
theorem dL_law_607 : decode cL_law 607 = .ok (.iadd, 1) := by decide +kernel
theorem dL_law_608 : decode cL_law 608 = .ok (.iaload, 1) := by decide +kernel
theorem dL_law_609 : decode cL_law 609 = .ok (.invokevirtual 65, 3) := by decide +kernel
theorem dL_law_612 : decode cL_law 612 = .ok (.if_icmp .eq 206, 3) := by decide +kernel
theorem dL_law_615 : decode cL_law 615 = .ok (.iconst 0, 1) := by decide +kernel
theorem dL_law_616 : decode cL_law 616 = .ok (.ireturn, 1) := by decide +kernel
theorem dL_law_617 : decode cL_law 617 = .ok (.aload_n 1, 1) := by decide +kernel
theorem dL_law_618 : decode cL_law 618 = .ok (.aload_n 0, 1) := by decide +kernel
theorem dL_law_619 : decode cL_law 619 = .ok (.iload_n 3, 1) := by decide +kernel
theorem dL_law_620 : decode cL_law 620 = .ok (.iconst 1, 1) := by decide +kernel
theorem dL_law_621 : decode cL_law 621 = .ok (.iadd, 1) := by decide +kernel
theorem dL_law_622 : decode cL_law 622 = .ok (.iaload, 1) := by decide +kernel
theorem dL_law_623 : decode cL_law 623 = .ok (.aload_n 0, 1) := by decide +kernel
theorem dL_law_624 : decode cL_law 624 = .ok (.iload_n 3, 1) := by decide +kernel
theorem dL_law_625 : decode cL_law 625 = .ok (.iconst 2, 1) := by decide +kernel
theorem dL_law_626 : decode cL_law 626 = .ok (.iadd, 1) := by decide +kernel
theorem dL_law_627 : decode cL_law 627 = .ok (.iaload, 1) := by decide +kernel
theorem dL_law_628 : decode cL_law 628 = .ok (.aload_n 0, 1) := by decide +kernel
theorem dL_law_629 : decode cL_law 629 = .ok (.iload_n 3, 1) := by decide +kernel
theorem dL_law_630 : decode cL_law 630 = .ok (.iconst 3, 1) := by decide +kernel
theorem dL_law_631 : decode cL_law 631 = .ok (.iadd, 1) := by decide +kernel
theorem dL_law_632 : decode cL_law 632 = .ok (.iaload, 1) := by decide +kernel
theorem dL_law_633 : decode cL_law 633 = .ok (.aload_n 0, 1) := by decide +kernel
theorem dL_law_634 : decode cL_law 634 = .ok (.iload_n 3, 1) := by decide +kernel
theorem dL_law_635 : decode cL_law 635 = .ok (.iconst 4, 1) := by decide +kernel
theorem dL_law_636 : decode cL_law 636 = .ok (.iadd, 1) := by decide +kernel
theorem dL_law_637 : decode cL_law 637 = .ok (.iaload, 1) := by decide +kernel
theorem dL_law_638 : decode cL_law 638 = .ok (.aload_n 0, 1) := by decide +kernel
theorem dL_law_639 : decode cL_law 639 = .ok (.iload_n 3, 1) := by decide +kernel
theorem dL_law_640 : decode cL_law 640 = .ok (.iconst 5, 1) := by decide +kernel
theorem dL_law_641 : decode cL_law 641 = .ok (.iadd, 1) := by decide +kernel
theorem dL_law_642 : decode cL_law 642 = .ok (.iaload, 1) := by decide +kernel
theorem dL_law_643 : decode cL_law 643 = .ok (.ifCond .eq 7, 3) := by decide +kernel
theorem dL_law_646 : decode cL_law 646 = .ok (.iconst 1, 1) := by decide +kernel
theorem dL_law_647 : decode cL_law 647 = .ok (.goto 4, 3) := by decide +kernel
theorem dL_law_650 : decode cL_law 650 = .ok (.iconst 0, 1) := by decide +kernel
theorem dL_law_651 : decode cL_law 651 = .ok (.invokevirtual 66, 3) := by decide +kernel
theorem dL_law_654 : decode cL_law 654 = .ok (.aload_n 2, 1) := by decide +kernel
theorem dL_law_655 : decode cL_law 655 = .ok (.aload_n 0, 1) := by decide +kernel
theorem dL_law_656 : decode cL_law 656 = .ok (.iload_n 3, 1) := by decide +kernel
theorem dL_law_657 : decode cL_law 657 = .ok (.iconst 1, 1) := by decide +kernel
theorem dL_law_658 : decode cL_law 658 = .ok (.iadd, 1) := by decide +kernel
theorem dL_law_659 : decode cL_law 659 = .ok (.iaload, 1) := by decide +kernel
theorem dL_law_660 : decode cL_law 660 = .ok (.aload_n 0, 1) := by decide +kernel
theorem dL_law_661 : decode cL_law 661 = .ok (.iload_n 3, 1) := by decide +kernel
theorem dL_law_662 : decode cL_law 662 = .ok (.iconst 2, 1) := by decide +kernel
theorem dL_law_663 : decode cL_law 663 = .ok (.iadd, 1) := by decide +kernel
theorem dL_law_664 : decode cL_law 664 = .ok (.iaload, 1) := by decide +kernel
theorem dL_law_665 : decode cL_law 665 = .ok (.aload_n 0, 1) := by decide +kernel
theorem dL_law_666 : decode cL_law 666 = .ok (.iload_n 3, 1) := by decide +kernel
theorem dL_law_667 : decode cL_law 667 = .ok (.iconst 3, 1) := by decide +kernel
theorem dL_law_668 : decode cL_law 668 = .ok (.iadd, 1) := by decide +kernel
theorem dL_law_669 : decode cL_law 669 = .ok (.iaload, 1) := by decide +kernel
theorem dL_law_670 : decode cL_law 670 = .ok (.aload_n 0, 1) := by decide +kernel
theorem dL_law_671 : decode cL_law 671 = .ok (.iload_n 3, 1) := by decide +kernel
theorem dL_law_672 : decode cL_law 672 = .ok (.iconst 4, 1) := by decide +kernel
theorem dL_law_673 : decode cL_law 673 = .ok (.iadd, 1) := by decide +kernel
theorem dL_law_674 : decode cL_law 674 = .ok (.iaload, 1) := by decide +kernel
theorem dL_law_675 : decode cL_law 675 = .ok (.aload_n 0, 1) := by decide +kernel
theorem dL_law_676 : decode cL_law 676 = .ok (.iload_n 3, 1) := by decide +kernel
theorem dL_law_677 : decode cL_law 677 = .ok (.iconst 5, 1) := by decide +kernel
theorem dL_law_678 : decode cL_law 678 = .ok (.iadd, 1) := by decide +kernel
theorem dL_law_679 : decode cL_law 679 = .ok (.iaload, 1) := by decide +kernel
theorem dL_law_680 : decode cL_law 680 = .ok (.ifCond .eq 7, 3) := by decide +kernel
theorem dL_law_683 : decode cL_law 683 = .ok (.iconst 1, 1) := by decide +kernel
theorem dL_law_684 : decode cL_law 684 = .ok (.goto 4, 3) := by decide +kernel
theorem dL_law_687 : decode cL_law 687 = .ok (.iconst 0, 1) := by decide +kernel
theorem dL_law_688 : decode cL_law 688 = .ok (.invokevirtual 70, 3) := by decide +kernel
theorem dL_law_691 : decode cL_law 691 = .ok (.if_icmp .eq 127, 3) := by decide +kernel
theorem dL_law_694 : decode cL_law 694 = .ok (.iconst 0, 1) := by decide +kernel
theorem dL_law_695 : decode cL_law 695 = .ok (.ireturn, 1) := by decide +kernel
theorem dL_law_696 : decode cL_law 696 = .ok (.aload_n 1, 1) := by decide +kernel
theorem dL_law_697 : decode cL_law 697 = .ok (.aload_n 0, 1) := by decide +kernel
theorem dL_law_698 : decode cL_law 698 = .ok (.iload_n 3, 1) := by decide +kernel
theorem dL_law_699 : decode cL_law 699 = .ok (.iconst 1, 1) := by decide +kernel
theorem dL_law_700 : decode cL_law 700 = .ok (.iadd, 1) := by decide +kernel
theorem dL_law_701 : decode cL_law 701 = .ok (.iaload, 1) := by decide +kernel
theorem dL_law_702 : decode cL_law 702 = .ok (.invokevirtual 71, 3) := by decide +kernel
theorem dL_law_705 : decode cL_law 705 = .ok (.aload_n 2, 1) := by decide +kernel
theorem dL_law_706 : decode cL_law 706 = .ok (.aload_n 0, 1) := by decide +kernel
theorem dL_law_707 : decode cL_law 707 = .ok (.iload_n 3, 1) := by decide +kernel
theorem dL_law_708 : decode cL_law 708 = .ok (.iconst 1, 1) := by decide +kernel
theorem dL_law_709 : decode cL_law 709 = .ok (.iadd, 1) := by decide +kernel
theorem dL_law_710 : decode cL_law 710 = .ok (.iaload, 1) := by decide +kernel
theorem dL_law_711 : decode cL_law 711 = .ok (.invokevirtual 75, 3) := by decide +kernel
theorem dL_law_714 : decode cL_law 714 = .ok (.if_icmp .eq 104, 3) := by decide +kernel
theorem dL_law_717 : decode cL_law 717 = .ok (.iconst 0, 1) := by decide +kernel
theorem dL_law_718 : decode cL_law 718 = .ok (.ireturn, 1) := by decide +kernel
theorem dL_law_719 : decode cL_law 719 = .ok (.aload_n 1, 1) := by decide +kernel
theorem dL_law_720 : decode cL_law 720 = .ok (.invokevirtual 76, 3) := by decide +kernel
theorem dL_law_723 : decode cL_law 723 = .ok (.aload_n 2, 1) := by decide +kernel
theorem dL_law_724 : decode cL_law 724 = .ok (.invokevirtual 80, 3) := by decide +kernel
theorem dL_law_727 : decode cL_law 727 = .ok (.if_icmp .eq 91, 3) := by decide +kernel
theorem dL_law_730 : decode cL_law 730 = .ok (.iconst 0, 1) := by decide +kernel
theorem dL_law_731 : decode cL_law 731 = .ok (.ireturn, 1) := by decide +kernel
theorem dL_law_732 : decode cL_law 732 = .ok (.aload_n 1, 1) := by decide +kernel
theorem dL_law_733 : decode cL_law 733 = .ok (.aload_n 0, 1) := by decide +kernel
theorem dL_law_734 : decode cL_law 734 = .ok (.iload_n 3, 1) := by decide +kernel
theorem dL_law_735 : decode cL_law 735 = .ok (.iconst 1, 1) := by decide +kernel
theorem dL_law_736 : decode cL_law 736 = .ok (.iadd, 1) := by decide +kernel
theorem dL_law_737 : decode cL_law 737 = .ok (.iaload, 1) := by decide +kernel
theorem dL_law_738 : decode cL_law 738 = .ok (.aload_n 0, 1) := by decide +kernel
theorem dL_law_739 : decode cL_law 739 = .ok (.iload_n 3, 1) := by decide +kernel
theorem dL_law_740 : decode cL_law 740 = .ok (.iconst 2, 1) := by decide +kernel
theorem dL_law_741 : decode cL_law 741 = .ok (.iadd, 1) := by decide +kernel
theorem dL_law_742 : decode cL_law 742 = .ok (.iaload, 1) := by decide +kernel
theorem dL_law_743 : decode cL_law 743 = .ok (.aload_n 0, 1) := by decide +kernel
theorem dL_law_744 : decode cL_law 744 = .ok (.iload_n 3, 1) := by decide +kernel
theorem dL_law_745 : decode cL_law 745 = .ok (.iconst 3, 1) := by decide +kernel
theorem dL_law_746 : decode cL_law 746 = .ok (.iadd, 1) := by decide +kernel
theorem dL_law_747 : decode cL_law 747 = .ok (.iaload, 1) := by decide +kernel
theorem dL_law_748 : decode cL_law 748 = .ok (.aload_n 0, 1) := by decide +kernel
theorem dL_law_749 : decode cL_law 749 = .ok (.iload_n 3, 1) := by decide +kernel
theorem dL_law_750 : decode cL_law 750 = .ok (.iconst 4, 1) := by decide +kernel
theorem dL_law_751 : decode cL_law 751 = .ok (.iadd, 1) := by decide +kernel
theorem dL_law_752 : decode cL_law 752 = .ok (.iaload, 1) := by decide +kernel
theorem dL_law_753 : decode cL_law 753 = .ok (.invokevirtual 81, 3) := by decide +kernel
theorem dL_law_756 : decode cL_law 756 = .ok (.aload_n 2, 1) := by decide +kernel
theorem dL_law_757 : decode cL_law 757 = .ok (.aload_n 0, 1) := by decide +kernel
theorem dL_law_758 : decode cL_law 758 = .ok (.iload_n 3, 1) := by decide +kernel
theorem dL_law_759 : decode cL_law 759 = .ok (.iconst 1, 1) := by decide +kernel
theorem dL_law_760 : decode cL_law 760 = .ok (.iadd, 1) := by decide +kernel
theorem dL_law_761 : decode cL_law 761 = .ok (.iaload, 1) := by decide +kernel
theorem dL_law_762 : decode cL_law 762 = .ok (.aload_n 0, 1) := by decide +kernel
theorem dL_law_763 : decode cL_law 763 = .ok (.iload_n 3, 1) := by decide +kernel
theorem dL_law_764 : decode cL_law 764 = .ok (.iconst 2, 1) := by decide +kernel
theorem dL_law_765 : decode cL_law 765 = .ok (.iadd, 1) := by decide +kernel
theorem dL_law_766 : decode cL_law 766 = .ok (.iaload, 1) := by decide +kernel
theorem dL_law_767 : decode cL_law 767 = .ok (.aload_n 0, 1) := by decide +kernel
theorem dL_law_768 : decode cL_law 768 = .ok (.iload_n 3, 1) := by decide +kernel
theorem dL_law_769 : decode cL_law 769 = .ok (.iconst 3, 1) := by decide +kernel
theorem dL_law_770 : decode cL_law 770 = .ok (.iadd, 1) := by decide +kernel
theorem dL_law_771 : decode cL_law 771 = .ok (.iaload, 1) := by decide +kernel
theorem dL_law_772 : decode cL_law 772 = .ok (.aload_n 0, 1) := by decide +kernel
theorem dL_law_773 : decode cL_law 773 = .ok (.iload_n 3, 1) := by decide +kernel
theorem dL_law_774 : decode cL_law 774 = .ok (.iconst 4, 1) := by decide +kernel
theorem dL_law_775 : decode cL_law 775 = .ok (.iadd, 1) := by decide +kernel
theorem dL_law_776 : decode cL_law 776 = .ok (.iaload, 1) := by decide +kernel
theorem dL_law_777 : decode cL_law 777 = .ok (.invokevirtual 85, 3) := by decide +kernel
theorem dL_law_780 : decode cL_law 780 = .ok (.if_icmp .eq 38, 3) := by decide +kernel
theorem dL_law_783 : decode cL_law 783 = .ok (.iconst 0, 1) := by decide +kernel
theorem dL_law_784 : decode cL_law 784 = .ok (.ireturn, 1) := by decide +kernel
theorem dL_law_785 : decode cL_law 785 = .ok (.aload_n 1, 1) := by decide +kernel
theorem dL_law_786 : decode cL_law 786 = .ok (.aload_n 0, 1) := by decide +kernel
theorem dL_law_787 : decode cL_law 787 = .ok (.iload_n 3, 1) := by decide +kernel
theorem dL_law_788 : decode cL_law 788 = .ok (.iconst 1, 1) := by decide +kernel
theorem dL_law_789 : decode cL_law 789 = .ok (.iadd, 1) := by decide +kernel
theorem dL_law_790 : decode cL_law 790 = .ok (.iaload, 1) := by decide +kernel
theorem dL_law_791 : decode cL_law 791 = .ok (.aload_n 0, 1) := by decide +kernel
theorem dL_law_792 : decode cL_law 792 = .ok (.iload_n 3, 1) := by decide +kernel
theorem dL_law_793 : decode cL_law 793 = .ok (.iconst 2, 1) := by decide +kernel
theorem dL_law_794 : decode cL_law 794 = .ok (.iadd, 1) := by decide +kernel
theorem dL_law_795 : decode cL_law 795 = .ok (.iaload, 1) := by decide +kernel
theorem dL_law_796 : decode cL_law 796 = .ok (.invokevirtual 86, 3) := by decide +kernel
theorem dL_law_799 : decode cL_law 799 = .ok (.aload_n 2, 1) := by decide +kernel
theorem dL_law_800 : decode cL_law 800 = .ok (.aload_n 0, 1) := by decide +kernel
theorem dL_law_801 : decode cL_law 801 = .ok (.iload_n 3, 1) := by decide +kernel
theorem dL_law_802 : decode cL_law 802 = .ok (.iconst 1, 1) := by decide +kernel
theorem dL_law_803 : decode cL_law 803 = .ok (.iadd, 1) := by decide +kernel
theorem dL_law_804 : decode cL_law 804 = .ok (.iaload, 1) := by decide +kernel
theorem dL_law_805 : decode cL_law 805 = .ok (.aload_n 0, 1) := by decide +kernel
theorem dL_law_806 : decode cL_law 806 = .ok (.iload_n 3, 1) := by decide +kernel
theorem dL_law_807 : decode cL_law 807 = .ok (.iconst 2, 1) := by decide +kernel
theorem dL_law_808 : decode cL_law 808 = .ok (.iadd, 1) := by decide +kernel
theorem dL_law_809 : decode cL_law 809 = .ok (.iaload, 1) := by decide +kernel
theorem dL_law_810 : decode cL_law 810 = .ok (.invokevirtual 89, 3) := by decide +kernel
theorem dL_law_813 : decode cL_law 813 = .ok (.if_icmp .eq 5, 3) := by decide +kernel
theorem dL_law_816 : decode cL_law 816 = .ok (.iconst 0, 1) := by decide +kernel
theorem dL_law_817 : decode cL_law 817 = .ok (.ireturn, 1) := by decide +kernel
theorem dL_law_818 : decode cL_law 818 = .ok (.iinc 3 6, 3) := by decide +kernel
theorem dL_law_821 : decode cL_law 821 = .ok (.goto (-803), 3) := by decide +kernel
theorem dL_law_824 : decode cL_law 824 = .ok (.iconst 1, 1) := by decide +kernel
theorem dL_law_825 : decode cL_law 825 = .ok (.ireturn, 1) := by decide +kernel
end
section
theorem zz_probe : True := trivial
end
