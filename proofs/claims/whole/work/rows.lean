section
-- ===== PART A: goes FIRST, ahead of the names: the tables' words, and 'selects' of the private methods out of them =====
/-- a private method of a class that the tables say can be made, by its rows of tables_1 -/
def lw_okq (q : MethodName × Nat) : Prop := (q.1.cls ≠ "java/lang/invoke/MethodHandle" ∧ q.1.cls ≠ "java/lang/invoke/VarHandle") ∧ Cond.instantiable q.1.cls q.2 ∈ tables_1 ∧ Cond.privateMethod q.1 ∈ tables_1 ∧ Cond.instanceMethod q.1 ∈ tables_1
theorem lw_p0 : lw_okq (⟨"PostHall", "enter", "(IIII)I"⟩, 10) := ⟨⟨by decide +kernel, by decide +kernel⟩, List.mem_of_getElem? (i := 6) (by decide +kernel), List.mem_of_getElem? (i := 53) (by decide +kernel), List.mem_of_getElem? (i := 54) (by decide +kernel)⟩
theorem lw_p1 : lw_okq (⟨"PostHall", "messageAt", "(I)LPostHall$Message;"⟩, 10) := ⟨⟨by decide +kernel, by decide +kernel⟩, List.mem_of_getElem? (i := 6) (by decide +kernel), List.mem_of_getElem? (i := 105) (by decide +kernel), List.mem_of_getElem? (i := 106) (by decide +kernel)⟩
theorem lw_p2 : lw_okq (⟨"PostHall", "counterAt", "(I)LPostHall$Counter;"⟩, 10) := ⟨⟨by decide +kernel, by decide +kernel⟩, List.mem_of_getElem? (i := 6) (by decide +kernel), List.mem_of_getElem? (i := 220) (by decide +kernel), List.mem_of_getElem? (i := 221) (by decide +kernel)⟩
theorem lw_p3 : lw_okq (⟨"PostHall", "carry", "(LPostHall$Message;I)I"⟩, 10) := ⟨⟨by decide +kernel, by decide +kernel⟩, List.mem_of_getElem? (i := 6) (by decide +kernel), List.mem_of_getElem? (i := 237) (by decide +kernel), List.mem_of_getElem? (i := 238) (by decide +kernel)⟩
theorem lw_p4 : lw_okq (⟨"PostHall", "meet", "(LPostHall$Counter;LPostHall$Message;)I"⟩, 10) := ⟨⟨by decide +kernel, by decide +kernel⟩, List.mem_of_getElem? (i := 6) (by decide +kernel), List.mem_of_getElem? (i := 246) (by decide +kernel), List.mem_of_getElem? (i := 247) (by decide +kernel)⟩
theorem lw_p5 : lw_okq (⟨"PostHall", "work", "(LPostHall$Counter;LPostHall$Message;)I"⟩, 10) := ⟨⟨by decide +kernel, by decide +kernel⟩, List.mem_of_getElem? (i := 6) (by decide +kernel), List.mem_of_getElem? (i := 254) (by decide +kernel), List.mem_of_getElem? (i := 255) (by decide +kernel)⟩
theorem lw_p6 : lw_okq (⟨"PostHall", "lay", "(LPostHall$Counter;LPostHall$Message;)I"⟩, 10) := ⟨⟨by decide +kernel, by decide +kernel⟩, List.mem_of_getElem? (i := 6) (by decide +kernel), List.mem_of_getElem? (i := 269) (by decide +kernel), List.mem_of_getElem? (i := 270) (by decide +kernel)⟩
theorem lw_p7 : lw_okq (⟨"PostHall", "open", "(LPostHall$Counter;LPostHall$Message;)I"⟩, 10) := ⟨⟨by decide +kernel, by decide +kernel⟩, List.mem_of_getElem? (i := 6) (by decide +kernel), List.mem_of_getElem? (i := 273) (by decide +kernel), List.mem_of_getElem? (i := 274) (by decide +kernel)⟩
theorem lw_p8 : lw_okq (⟨"PostHall", "spread", "(LPostHall$Counter;LPostHall$Message;)I"⟩, 10) := ⟨⟨by decide +kernel, by decide +kernel⟩, List.mem_of_getElem? (i := 6) (by decide +kernel), List.mem_of_getElem? (i := 280) (by decide +kernel), List.mem_of_getElem? (i := 281) (by decide +kernel)⟩
theorem lw_p9 : lw_okq (⟨"PostHall", "noteFall", "(LPostHall$Counter;)V"⟩, 10) := ⟨⟨by decide +kernel, by decide +kernel⟩, List.mem_of_getElem? (i := 6) (by decide +kernel), List.mem_of_getElem? (i := 284) (by decide +kernel), List.mem_of_getElem? (i := 285) (by decide +kernel)⟩
theorem lw_p10 : lw_okq (⟨"PostHallModel", "kept", "(IIII)I"⟩, 29) := ⟨⟨by decide +kernel, by decide +kernel⟩, List.mem_of_getElem? (i := 300) (by decide +kernel), List.mem_of_getElem? (i := 402) (by decide +kernel), List.mem_of_getElem? (i := 403) (by decide +kernel)⟩
theorem lw_p11 : lw_okq (⟨"PostHallModel", "isMessage", "(I)Z"⟩, 29) := ⟨⟨by decide +kernel, by decide +kernel⟩, List.mem_of_getElem? (i := 300) (by decide +kernel), List.mem_of_getElem? (i := 414) (by decide +kernel), List.mem_of_getElem? (i := 415) (by decide +kernel)⟩
theorem lw_p12 : lw_okq (⟨"PostHallModel", "isBundle", "(I)Z"⟩, 29) := ⟨⟨by decide +kernel, by decide +kernel⟩, List.mem_of_getElem? (i := 300) (by decide +kernel), List.mem_of_getElem? (i := 418) (by decide +kernel), List.mem_of_getElem? (i := 419) (by decide +kernel)⟩
theorem lw_p13 : lw_okq (⟨"PostHallModel", "isFigures", "(I)Z"⟩, 29) := ⟨⟨by decide +kernel, by decide +kernel⟩, List.mem_of_getElem? (i := 300) (by decide +kernel), List.mem_of_getElem? (i := 422) (by decide +kernel), List.mem_of_getElem? (i := 423) (by decide +kernel)⟩
theorem lw_p14 : lw_okq (⟨"PostHallModel", "holds", "(II)Z"⟩, 29) := ⟨⟨by decide +kernel, by decide +kernel⟩, List.mem_of_getElem? (i := 300) (by decide +kernel), List.mem_of_getElem? (i := 426) (by decide +kernel), List.mem_of_getElem? (i := 427) (by decide +kernel)⟩
theorem lw_p15 : lw_okq (⟨"PostHallModel", "isOf", "(III)Z"⟩, 29) := ⟨⟨by decide +kernel, by decide +kernel⟩, List.mem_of_getElem? (i := 300) (by decide +kernel), List.mem_of_getElem? (i := 430) (by decide +kernel), List.mem_of_getElem? (i := 431) (by decide +kernel)⟩
def lw_privs_1 : List (MethodName × Nat) := [(⟨"PostHall", "enter", "(IIII)I"⟩, 10), (⟨"PostHall", "messageAt", "(I)LPostHall$Message;"⟩, 10), (⟨"PostHall", "counterAt", "(I)LPostHall$Counter;"⟩, 10), (⟨"PostHall", "carry", "(LPostHall$Message;I)I"⟩, 10), (⟨"PostHall", "meet", "(LPostHall$Counter;LPostHall$Message;)I"⟩, 10), (⟨"PostHall", "work", "(LPostHall$Counter;LPostHall$Message;)I"⟩, 10), (⟨"PostHall", "lay", "(LPostHall$Counter;LPostHall$Message;)I"⟩, 10), (⟨"PostHall", "open", "(LPostHall$Counter;LPostHall$Message;)I"⟩, 10), (⟨"PostHall", "spread", "(LPostHall$Counter;LPostHall$Message;)I"⟩, 10), (⟨"PostHall", "noteFall", "(LPostHall$Counter;)V"⟩, 10), (⟨"PostHallModel", "kept", "(IIII)I"⟩, 29), (⟨"PostHallModel", "isMessage", "(I)Z"⟩, 29), (⟨"PostHallModel", "isBundle", "(I)Z"⟩, 29), (⟨"PostHallModel", "isFigures", "(I)Z"⟩, 29), (⟨"PostHallModel", "holds", "(II)Z"⟩, 29), (⟨"PostHallModel", "isOf", "(III)Z"⟩, 29)]
theorem lw_r1 : ∀ q ∈ lw_privs_1, lw_okq q := List.forall_mem_cons.mpr ⟨lw_p0, List.forall_mem_cons.mpr ⟨lw_p1, List.forall_mem_cons.mpr ⟨lw_p2, List.forall_mem_cons.mpr ⟨lw_p3, List.forall_mem_cons.mpr ⟨lw_p4, List.forall_mem_cons.mpr ⟨lw_p5, List.forall_mem_cons.mpr ⟨lw_p6, List.forall_mem_cons.mpr ⟨lw_p7, List.forall_mem_cons.mpr ⟨lw_p8, List.forall_mem_cons.mpr ⟨lw_p9, List.forall_mem_cons.mpr ⟨lw_p10, List.forall_mem_cons.mpr ⟨lw_p11, List.forall_mem_cons.mpr ⟨lw_p12, List.forall_mem_cons.mpr ⟨lw_p13, List.forall_mem_cons.mpr ⟨lw_p14, List.forall_mem_cons.mpr ⟨lw_p15, fun _ h => absurd h List.not_mem_nil⟩⟩⟩⟩⟩⟩⟩⟩⟩⟩⟩⟩⟩⟩⟩⟩
theorem lw_p16 : lw_okq (⟨"PostHallModel", "isCounter", "(I)Z"⟩, 29) := ⟨⟨by decide +kernel, by decide +kernel⟩, List.mem_of_getElem? (i := 300) (by decide +kernel), List.mem_of_getElem? (i := 472) (by decide +kernel), List.mem_of_getElem? (i := 473) (by decide +kernel)⟩
theorem lw_p17 : lw_okq (⟨"PostHallModel", "begin", "(II)V"⟩, 29) := ⟨⟨by decide +kernel, by decide +kernel⟩, List.mem_of_getElem? (i := 300) (by decide +kernel), List.mem_of_getElem? (i := 484) (by decide +kernel), List.mem_of_getElem? (i := 485) (by decide +kernel)⟩
theorem lw_p18 : lw_okq (⟨"PostHallModel", "step", "()I"⟩, 29) := ⟨⟨by decide +kernel, by decide +kernel⟩, List.mem_of_getElem? (i := 300) (by decide +kernel), List.mem_of_getElem? (i := 488) (by decide +kernel), List.mem_of_getElem? (i := 489) (by decide +kernel)⟩
theorem lw_p19 : lw_okq (⟨"PostHallModel", "meeting", "(II)I"⟩, 29) := ⟨⟨by decide +kernel, by decide +kernel⟩, List.mem_of_getElem? (i := 300) (by decide +kernel), List.mem_of_getElem? (i := 492) (by decide +kernel), List.mem_of_getElem? (i := 493) (by decide +kernel)⟩
theorem lw_p20 : lw_okq (⟨"PostHallModel", "works", "(I)I"⟩, 29) := ⟨⟨by decide +kernel, by decide +kernel⟩, List.mem_of_getElem? (i := 300) (by decide +kernel), List.mem_of_getElem? (i := 496) (by decide +kernel), List.mem_of_getElem? (i := 497) (by decide +kernel)⟩
theorem lw_p21 : lw_okq (⟨"PostHallModel", "mark", "(II)I"⟩, 29) := ⟨⟨by decide +kernel, by decide +kernel⟩, List.mem_of_getElem? (i := 300) (by decide +kernel), List.mem_of_getElem? (i := 500) (by decide +kernel), List.mem_of_getElem? (i := 501) (by decide +kernel)⟩
theorem lw_p22 : lw_okq (⟨"PostHallModel", "lay", "(II)I"⟩, 29) := ⟨⟨by decide +kernel, by decide +kernel⟩, List.mem_of_getElem? (i := 300) (by decide +kernel), List.mem_of_getElem? (i := 504) (by decide +kernel), List.mem_of_getElem? (i := 505) (by decide +kernel)⟩
theorem lw_p23 : lw_okq (⟨"PostHallModel", "spreads", "(I)Z"⟩, 29) := ⟨⟨by decide +kernel, by decide +kernel⟩, List.mem_of_getElem? (i := 300) (by decide +kernel), List.mem_of_getElem? (i := 508) (by decide +kernel), List.mem_of_getElem? (i := 509) (by decide +kernel)⟩
theorem lw_p24 : lw_okq (⟨"PostHallModel", "over", "(II)I"⟩, 29) := ⟨⟨by decide +kernel, by decide +kernel⟩, List.mem_of_getElem? (i := 300) (by decide +kernel), List.mem_of_getElem? (i := 512) (by decide +kernel), List.mem_of_getElem? (i := 513) (by decide +kernel)⟩
theorem lw_p25 : lw_okq (⟨"PostHallModel", "back", "(I)I"⟩, 29) := ⟨⟨by decide +kernel, by decide +kernel⟩, List.mem_of_getElem? (i := 300) (by decide +kernel), List.mem_of_getElem? (i := 516) (by decide +kernel), List.mem_of_getElem? (i := 517) (by decide +kernel)⟩
def lw_privs_2 : List (MethodName × Nat) := [(⟨"PostHallModel", "isCounter", "(I)Z"⟩, 29), (⟨"PostHallModel", "begin", "(II)V"⟩, 29), (⟨"PostHallModel", "step", "()I"⟩, 29), (⟨"PostHallModel", "meeting", "(II)I"⟩, 29), (⟨"PostHallModel", "works", "(I)I"⟩, 29), (⟨"PostHallModel", "mark", "(II)I"⟩, 29), (⟨"PostHallModel", "lay", "(II)I"⟩, 29), (⟨"PostHallModel", "spreads", "(I)Z"⟩, 29), (⟨"PostHallModel", "over", "(II)I"⟩, 29), (⟨"PostHallModel", "back", "(I)I"⟩, 29)]
theorem lw_r2 : ∀ q ∈ lw_privs_2, lw_okq q := List.forall_mem_cons.mpr ⟨lw_p16, List.forall_mem_cons.mpr ⟨lw_p17, List.forall_mem_cons.mpr ⟨lw_p18, List.forall_mem_cons.mpr ⟨lw_p19, List.forall_mem_cons.mpr ⟨lw_p20, List.forall_mem_cons.mpr ⟨lw_p21, List.forall_mem_cons.mpr ⟨lw_p22, List.forall_mem_cons.mpr ⟨lw_p23, List.forall_mem_cons.mpr ⟨lw_p24, List.forall_mem_cons.mpr ⟨lw_p25, fun _ h => absurd h List.not_mem_nil⟩⟩⟩⟩⟩⟩⟩⟩⟩⟩
def lw_privs : List (MethodName × Nat) := lw_privs_1 ++ (lw_privs_2)
def lw_tbl : List Cond := k2_sels lw_privs ++ tables_1
theorem lw_privs_ok : ∀ q ∈ lw_privs, lw_okq q := by
  show ∀ q ∈ lw_privs_1 ++ (lw_privs_2), lw_okq q
  exact List.forall_mem_append.mpr ⟨lw_r1, lw_r2⟩
end
section
def RX0 : String := "PostHall$Counter"
def TX0 : u_T := fun k => match k with
  | 0 => ("PostHall$Counter", "at", "I", true)
  | 1 => ("PostHall$Counter", "asksBase", "I", false)
  | 2 => ("PostHall$Counter", "asksDepth", "I", false)
  | 3 => ("PostHall$Counter", "wantsBase", "I", false)
  | 4 => ("PostHall$Counter", "wantsDepth", "I", false)
  | 5 => ("PostHall$Counter", "job", "I", false)
  | 6 => ("PostHall$Counter", "number", "I", false)
  | 7 => ("PostHall$Counter", "own", "I", false)
  | 8 => ("PostHall$Counter", "patient", "Z", false)
  | 9 => ("PostHall$Counter", "shut", "Z", false)
  | 10 => ("PostHall$Counter", "met", "I", false)
  | _ => ("PostHall$Counter", "fell", "I", false)
def tyX0 : Nat → FieldType := fun k => match k with
  | 0 => .int
  | 1 => .int
  | 2 => .int
  | 3 => .int
  | 4 => .int
  | 5 => .int
  | 6 => .int
  | 7 => .int
  | 8 => .boolean
  | 9 => .boolean
  | 10 => .int
  | _ => .int
abbrev wsX00 : List Cond := u_ws RX0 TX0 12
theorem nmX0 : ∀ a, a < 12 → ∀ b, b < 12 → a ≠ b → (TX0 a).2.1 ≠ (TX0 b).2.1 := by decide +kernel
theorem tyX0_ok : ∀ k, k < 12 → parseFieldDescriptor (TX0 k).2.2.1 = some (tyX0 k) := by decide +kernel
abbrev cX0_init : ByteArray := prog_2_method_1_code
def yX0_init : MethodName := ⟨RX0, "<init>", "(I)V"⟩
abbrev cX0_setAnew : ByteArray := prog_2_method_2_code
def yX0_setAnew : MethodName := ⟨RX0, "setAnew", "(IIII)V"⟩
abbrev cX0_asksFor : ByteArray := prog_2_method_3_code
def yX0_asksFor : MethodName := ⟨RX0, "asksFor", "(LPostHall$Message;)Z"⟩
abbrev cX0_takes : ByteArray := prog_2_method_4_code
def yX0_takes : MethodName := ⟨RX0, "takes", "(LPostHall$Message;)Z"⟩
abbrev cX0_canDo : ByteArray := prog_2_method_5_code
def yX0_canDo : MethodName := ⟨RX0, "canDo", "(I)Z"⟩
def RX1 : String := "PostHall$Message"
def TX1 : u_T := fun k => match k with
  | 0 => ("PostHall$Message", "number", "I", true)
  | 1 => ("PostHall$Message", "base", "I", true)
  | 2 => ("PostHall$Message", "depth", "I", true)
  | 3 => ("PostHall$Message", "figures", "Z", true)
  | 4 => ("PostHall$Message", "places", "[I", true)
  | _ => ("PostHall$Message", "stamp", "I", false)
def tyX1 : Nat → FieldType := fun k => match k with
  | 0 => .int
  | 1 => .int
  | 2 => .int
  | 3 => .boolean
  | 4 => .array .int
  | _ => .int
abbrev wsX10 : List Cond := u_ws RX1 TX1 6
theorem nmX1 : ∀ a, a < 6 → ∀ b, b < 6 → a ≠ b → (TX1 a).2.1 ≠ (TX1 b).2.1 := by decide +kernel
theorem tyX1_ok : ∀ k, k < 6 → parseFieldDescriptor (TX1 k).2.2.1 = some (tyX1 k) := by decide +kernel
abbrev cX1_init : ByteArray := prog_3_method_1_code
def yX1_init : MethodName := ⟨RX1, "<init>", "(IIII)V"⟩
abbrev cX1_fill : ByteArray := prog_3_method_2_code
def yX1_fill : MethodName := ⟨RX1, "fill", "(I)V"⟩
abbrev cX1_fits : ByteArray := prog_3_method_3_code
def yX1_fits : MethodName := ⟨RX1, "fits", "(II)Z"⟩
abbrev cX1_holds : ByteArray := prog_3_method_4_code
def yX1_holds : MethodName := ⟨RX1, "holds", "(LPostHall$Message;)Z"⟩
abbrev cX1_hasMessagePlace : ByteArray := prog_3_method_5_code
def yX1_hasMessagePlace : MethodName := ⟨RX1, "hasMessagePlace", "(I)Z"⟩
abbrev cX1_hasNumber : ByteArray := prog_3_method_6_code
def yX1_hasNumber : MethodName := ⟨RX1, "hasNumber", "(I)Z"⟩
abbrev cX1_weight : ByteArray := prog_3_method_7_code
def yX1_weight : MethodName := ⟨RX1, "weight", "()I"⟩
abbrev cX1_lowestBits : ByteArray := prog_3_method_8_code
def yX1_lowestBits : MethodName := ⟨RX1, "lowestBits", "(I)I"⟩
def RX2 : String := "PostHall"
def TX2 : u_T := fun k => match k with
  | 0 => ("PostHall", "messages", "[LPostHall$Message;", true)
  | 1 => ("PostHall", "counters", "[LPostHall$Counter;", true)
  | 2 => ("PostHall", "messageCount", "I", false)
  | 3 => ("PostHall", "setCount", "I", false)
  | 4 => ("PostHall", "sendCount", "I", false)
  | 5 => ("PostHall", "meetings", "I", false)
  | 6 => ("PostHall", "done", "I", false)
  | 7 => ("PostHall", "lost", "I", false)
  | 8 => ("PostHall", "fallen", "I", false)
  | _ => ("PostHall", "firstFallen", "I", false)
def tyX2 : Nat → FieldType := fun k => match k with
  | 0 => .array (.object "PostHall$Message")
  | 1 => .array (.object "PostHall$Counter")
  | 2 => .int
  | 3 => .int
  | 4 => .int
  | 5 => .int
  | 6 => .int
  | 7 => .int
  | 8 => .int
  | _ => .int
abbrev wsX20 : List Cond := u_ws RX2 TX2 10
theorem nmX2 : ∀ a, a < 10 → ∀ b, b < 10 → a ≠ b → (TX2 a).2.1 ≠ (TX2 b).2.1 := by decide +kernel
theorem tyX2_ok : ∀ k, k < 10 → parseFieldDescriptor (TX2 k).2.2.1 = some (tyX2 k) := by decide +kernel
abbrev cX2_init : ByteArray := prog_1_method_1_code
def yX2_init : MethodName := ⟨RX2, "<init>", "()V"⟩
abbrev cX2_slip : ByteArray := prog_1_method_2_code
def yX2_slip : MethodName := ⟨RX2, "slip", "(II)I"⟩
abbrev cX2_bundle : ByteArray := prog_1_method_3_code
def yX2_bundle : MethodName := ⟨RX2, "bundle", "(III)I"⟩
abbrev cX2_place : ByteArray := prog_1_method_4_code
def yX2_place : MethodName := ⟨RX2, "place", "(III)I"⟩
abbrev cX2_placed : ByteArray := prog_1_method_5_code
def yX2_placed : MethodName := ⟨RX2, "placed", "(II)I"⟩
abbrev cX2_figure : ByteArray := prog_1_method_6_code
def yX2_figure : MethodName := ⟨RX2, "figure", "(III)I"⟩
abbrev cX2_number : ByteArray := prog_1_method_7_code
def yX2_number : MethodName := ⟨RX2, "number", "(II)I"⟩
abbrev cX2_is : ByteArray := prog_1_method_8_code
def yX2_is : MethodName := ⟨RX2, "is", "(III)I"⟩
abbrev cX2_about : ByteArray := prog_1_method_9_code
def yX2_about : MethodName := ⟨RX2, "about", "(II)I"⟩
abbrev cX2_counter : ByteArray := prog_1_method_10_code
def yX2_counter : MethodName := ⟨RX2, "counter", "(IIIII)I"⟩
abbrev cX2_job : ByteArray := prog_1_method_11_code
def yX2_job : MethodName := ⟨RX2, "job", "(IIIII)I"⟩
abbrev cX2_shut : ByteArray := prog_1_method_12_code
def yX2_shut : MethodName := ⟨RX2, "shut", "(IZ)I"⟩
abbrev cX2_send : ByteArray := prog_1_method_13_code
def yX2_send : MethodName := ⟨RX2, "send", "(II)I"⟩
abbrev cX2_told : ByteArray := prog_1_method_14_code
def yX2_told : MethodName := ⟨RX2, "told", "(I)I"⟩
abbrev cX2_of : ByteArray := prog_1_method_15_code
def yX2_of : MethodName := ⟨RX2, "of", "(II)I"⟩
abbrev cX2_count : ByteArray := prog_1_method_16_code
def yX2_count : MethodName := ⟨RX2, "count", "(I)I"⟩
abbrev cX2_asInt : ByteArray := prog_1_method_17_code
def yX2_asInt : MethodName := ⟨RX2, "asInt", "(Z)I"⟩
abbrev cX2_passesFor : ByteArray := prog_1_method_18_code
def yX2_passesFor : MethodName := ⟨RX2, "passesFor", "(II)Z"⟩
abbrev cX2_isKind : ByteArray := prog_1_method_19_code
def yX2_isKind : MethodName := ⟨RX2, "isKind", "(II)Z"⟩
abbrev cX2_isOfFigures : ByteArray := prog_1_method_20_code
def yX2_isOfFigures : MethodName := ⟨RX2, "isOfFigures", "(II)Z"⟩
abbrev cX2_enter : ByteArray := prog_1_method_21_code
def yX2_enter : MethodName := ⟨RX2, "enter", "(IIII)I"⟩
abbrev cX2_messageAt : ByteArray := prog_1_method_22_code
def yX2_messageAt : MethodName := ⟨RX2, "messageAt", "(I)LPostHall$Message;"⟩
abbrev cX2_counterAt : ByteArray := prog_1_method_23_code
def yX2_counterAt : MethodName := ⟨RX2, "counterAt", "(I)LPostHall$Counter;"⟩
abbrev cX2_carry : ByteArray := prog_1_method_24_code
def yX2_carry : MethodName := ⟨RX2, "carry", "(LPostHall$Message;I)I"⟩
abbrev cX2_meet : ByteArray := prog_1_method_25_code
def yX2_meet : MethodName := ⟨RX2, "meet", "(LPostHall$Counter;LPostHall$Message;)I"⟩
abbrev cX2_noteFall : ByteArray := prog_1_method_26_code
def yX2_noteFall : MethodName := ⟨RX2, "noteFall", "(LPostHall$Counter;)V"⟩
abbrev cX2_work : ByteArray := prog_1_method_27_code
def yX2_work : MethodName := ⟨RX2, "work", "(LPostHall$Counter;LPostHall$Message;)I"⟩
abbrev cX2_mark : ByteArray := prog_1_method_28_code
def yX2_mark : MethodName := ⟨RX2, "mark", "(LPostHall$Counter;LPostHall$Message;)I"⟩
abbrev cX2_markedStamp : ByteArray := prog_1_method_29_code
def yX2_markedStamp : MethodName := ⟨RX2, "markedStamp", "(LPostHall$Counter;LPostHall$Message;)I"⟩
abbrev cX2_lay : ByteArray := prog_1_method_30_code
def yX2_lay : MethodName := ⟨RX2, "lay", "(LPostHall$Counter;LPostHall$Message;)I"⟩
abbrev cX2_open : ByteArray := prog_1_method_31_code
def yX2_open : MethodName := ⟨RX2, "open", "(LPostHall$Counter;LPostHall$Message;)I"⟩
abbrev cX2_spread : ByteArray := prog_1_method_32_code
def yX2_spread : MethodName := ⟨RX2, "spread", "(LPostHall$Counter;LPostHall$Message;)I"⟩
abbrev cX2_failureOf : ByteArray := prog_1_method_33_code
def yX2_failureOf : MethodName := ⟨RX2, "failureOf", "(I)I"⟩
def RX3 : String := "PostHallModel"
def TX3 : u_T := fun k => match k with
  | 0 => ("PostHallModel", "messages", "I", false)
  | 1 => ("PostHallModel", "base", "[I", true)
  | 2 => ("PostHallModel", "depth", "[I", true)
  | 3 => ("PostHallModel", "stamp", "[I", true)
  | 4 => ("PostHallModel", "size", "[I", true)
  | 5 => ("PostHallModel", "item", "[I", true)
  | 6 => ("PostHallModel", "isSet", "[Z", true)
  | 7 => ("PostHallModel", "isShut", "[Z", true)
  | 8 => ("PostHallModel", "isPatient", "[Z", true)
  | 9 => ("PostHallModel", "asksBase", "[I", true)
  | 10 => ("PostHallModel", "asksDepth", "[I", true)
  | 11 => ("PostHallModel", "wantsBase", "[I", true)
  | 12 => ("PostHallModel", "wantsDepth", "[I", true)
  | 13 => ("PostHallModel", "job", "[I", true)
  | 14 => ("PostHallModel", "number", "[I", true)
  | 15 => ("PostHallModel", "own", "[I", true)
  | 16 => ("PostHallModel", "met", "[I", true)
  | 17 => ("PostHallModel", "fell", "[I", true)
  | 18 => ("PostHallModel", "sends", "I", false)
  | 19 => ("PostHallModel", "meetings", "I", false)
  | 20 => ("PostHallModel", "done", "I", false)
  | 21 => ("PostHallModel", "lost", "I", false)
  | 22 => ("PostHallModel", "failed", "I", false)
  | 23 => ("PostHallModel", "first", "I", false)
  | 24 => ("PostHallModel", "top", "I", false)
  | 25 => ("PostHallModel", "message", "[I", true)
  | 26 => ("PostHallModel", "next", "[I", true)
  | 27 => ("PostHallModel", "meets", "[I", true)
  | _ => ("PostHallModel", "place", "[I", true)
def tyX3 : Nat → FieldType := fun k => match k with
  | 0 => .int
  | 1 => .array .int
  | 2 => .array .int
  | 3 => .array .int
  | 4 => .array .int
  | 5 => .array .int
  | 6 => .array .boolean
  | 7 => .array .boolean
  | 8 => .array .boolean
  | 9 => .array .int
  | 10 => .array .int
  | 11 => .array .int
  | 12 => .array .int
  | 13 => .array .int
  | 14 => .array .int
  | 15 => .array .int
  | 16 => .array .int
  | 17 => .array .int
  | 18 => .int
  | 19 => .int
  | 20 => .int
  | 21 => .int
  | 22 => .int
  | 23 => .int
  | 24 => .int
  | 25 => .array .int
  | 26 => .array .int
  | 27 => .array .int
  | _ => .array .int
abbrev wsX30 : List Cond := u_ws RX3 TX3 29
theorem nmX3 : ∀ a, a < 29 → ∀ b, b < 29 → a ≠ b → (TX3 a).2.1 ≠ (TX3 b).2.1 := by decide +kernel
theorem tyX3_ok : ∀ k, k < 29 → parseFieldDescriptor (TX3 k).2.2.1 = some (tyX3 k) := by decide +kernel
abbrev cX3_init : ByteArray := prog_5_method_1_code
def yX3_init : MethodName := ⟨RX3, "<init>", "()V"⟩
abbrev cX3_in : ByteArray := prog_5_method_2_code
def yX3_in : MethodName := ⟨RX3, "in", "(III)Z"⟩
abbrev cX3_isMessage : ByteArray := prog_5_method_3_code
def yX3_isMessage : MethodName := ⟨RX3, "isMessage", "(I)Z"⟩
abbrev cX3_passes : ByteArray := prog_5_method_4_code
def yX3_passes : MethodName := ⟨RX3, "passes", "(II)Z"⟩
abbrev cX3_isOf : ByteArray := prog_5_method_5_code
def yX3_isOf : MethodName := ⟨RX3, "isOf", "(III)Z"⟩
abbrev cX3_isFigures : ByteArray := prog_5_method_6_code
def yX3_isFigures : MethodName := ⟨RX3, "isFigures", "(I)Z"⟩
abbrev cX3_isBundle : ByteArray := prog_5_method_7_code
def yX3_isBundle : MethodName := ⟨RX3, "isBundle", "(I)Z"⟩
abbrev cX3_holds : ByteArray := prog_5_method_8_code
def yX3_holds : MethodName := ⟨RX3, "holds", "(II)Z"⟩
abbrev cX3_kept : ByteArray := prog_5_method_9_code
def yX3_kept : MethodName := ⟨RX3, "kept", "(IIII)I"⟩
abbrev cX3_slip : ByteArray := prog_5_method_10_code
def yX3_slip : MethodName := ⟨RX3, "slip", "(II)I"⟩
abbrev cX3_bundle : ByteArray := prog_5_method_11_code
def yX3_bundle : MethodName := ⟨RX3, "bundle", "(III)I"⟩
abbrev cX3_place : ByteArray := prog_5_method_12_code
def yX3_place : MethodName := ⟨RX3, "place", "(III)I"⟩
abbrev cX3_placed : ByteArray := prog_5_method_13_code
def yX3_placed : MethodName := ⟨RX3, "placed", "(II)I"⟩
abbrev cX3_cut : ByteArray := prog_5_method_14_code
def yX3_cut : MethodName := ⟨RX3, "cut", "(II)I"⟩
abbrev cX3_figure : ByteArray := prog_5_method_15_code
def yX3_figure : MethodName := ⟨RX3, "figure", "(III)I"⟩
abbrev cX3_number : ByteArray := prog_5_method_16_code
def yX3_number : MethodName := ⟨RX3, "number", "(II)I"⟩
abbrev cX3_isView : ByteArray := prog_5_method_17_code
def yX3_isView : MethodName := ⟨RX3, "isView", "(II)Z"⟩
abbrev cX3_is : ByteArray := prog_5_method_18_code
def yX3_is : MethodName := ⟨RX3, "is", "(III)I"⟩
abbrev cX3_about : ByteArray := prog_5_method_19_code
def yX3_about : MethodName := ⟨RX3, "about", "(II)I"⟩
abbrev cX3_counter : ByteArray := prog_5_method_20_code
def yX3_counter : MethodName := ⟨RX3, "counter", "(IIIII)I"⟩
abbrev cX3_isCounter : ByteArray := prog_5_method_21_code
def yX3_isCounter : MethodName := ⟨RX3, "isCounter", "(I)Z"⟩
abbrev cX3_job : ByteArray := prog_5_method_22_code
def yX3_job : MethodName := ⟨RX3, "job", "(IIIII)I"⟩
abbrev cX3_shut : ByteArray := prog_5_method_23_code
def yX3_shut : MethodName := ⟨RX3, "shut", "(IZ)I"⟩
abbrev cX3_begin : ByteArray := prog_5_method_24_code
def yX3_begin : MethodName := ⟨RX3, "begin", "(II)V"⟩
abbrev cX3_meeting : ByteArray := prog_5_method_25_code
def yX3_meeting : MethodName := ⟨RX3, "meeting", "(II)I"⟩
abbrev cX3_mark : ByteArray := prog_5_method_26_code
def yX3_mark : MethodName := ⟨RX3, "mark", "(II)I"⟩
abbrev cX3_lay : ByteArray := prog_5_method_27_code
def yX3_lay : MethodName := ⟨RX3, "lay", "(II)I"⟩
abbrev cX3_spreads : ByteArray := prog_5_method_28_code
def yX3_spreads : MethodName := ⟨RX3, "spreads", "(I)Z"⟩
abbrev cX3_works : ByteArray := prog_5_method_29_code
def yX3_works : MethodName := ⟨RX3, "works", "(I)I"⟩
abbrev cX3_over : ByteArray := prog_5_method_30_code
def yX3_over : MethodName := ⟨RX3, "over", "(II)I"⟩
abbrev cX3_step : ByteArray := prog_5_method_31_code
def yX3_step : MethodName := ⟨RX3, "step", "()I"⟩
abbrev cX3_back : ByteArray := prog_5_method_32_code
def yX3_back : MethodName := ⟨RX3, "back", "(I)I"⟩
abbrev cX3_send : ByteArray := prog_5_method_33_code
def yX3_send : MethodName := ⟨RX3, "send", "(II)I"⟩
abbrev cX3_told : ByteArray := prog_5_method_34_code
def yX3_told : MethodName := ⟨RX3, "told", "(I)I"⟩
abbrev cX3_of : ByteArray := prog_5_method_35_code
def yX3_of : MethodName := ⟨RX3, "of", "(II)I"⟩
abbrev cX3_count : ByteArray := prog_5_method_36_code
def yX3_count : MethodName := ⟨RX3, "count", "(I)I"⟩
def RL : String := "PostHallLaw"
abbrev cL_law : ByteArray := code
def yL_law : MethodName := ⟨RL, "law", "([I)Z"⟩
abbrev vwCl : List vw_C := [(RX0, TX0, 12), (RX1, TX1, 6), (RX2, TX2, 10), (RX3, TX3, 29)]
end
section
/-! the words: the good ones of the tables; each by its place -/
def wsL_law : List Cond := lw_tbl.filter goodWord
theorem wsL_good : ∀ w ∈ wsL_law, (w.onTables && w.keeps) = true ∨ ∃ ty, w = .arrayClass ty := fun w h => good_of_word (List.mem_filter.mp h).2
theorem wsL_law_in : ∀ w ∈ wsL_law, w ∈ lw_tbl := fun w h => (List.mem_filter.mp h).1
theorem wt_1 {w : Cond} (h : w ∈ tables_1_1) (g : goodWord w = true) : w ∈ wsL_law := List.mem_filter.mpr ⟨List.mem_append_right _ (List.mem_append_left _ h), g⟩
theorem wt_2 {w : Cond} (h : w ∈ tables_1_2) (g : goodWord w = true) : w ∈ wsL_law := List.mem_filter.mpr ⟨List.mem_append_right _ (List.mem_append_right _ (List.mem_append_left _ h)), g⟩
theorem wt_3 {w : Cond} (h : w ∈ tables_1_3) (g : goodWord w = true) : w ∈ wsL_law := List.mem_filter.mpr ⟨List.mem_append_right _ (List.mem_append_right _ (List.mem_append_right _ h)), g⟩
theorem wt_s {y : MethodName} {n : Nat} (h : (y, n) ∈ lw_privs) (g : goodWord (Cond.selects y.cls y y) = true) : Cond.selects y.cls y y ∈ wsL_law := List.mem_filter.mpr ⟨List.mem_append_left _ (List.mem_map.mpr ⟨(y, n), h, rfl⟩), g⟩
theorem cl_RL_7 : Cond.classLink RL 7 RX2 ∈ wsL_law := wt_1 (List.mem_of_getElem? (i := 5) rfl) rfl
theorem ia_RX2 : Cond.instantiable RX2 10 ∈ wsL_law := wt_1 (List.mem_of_getElem? (i := 6) rfl) rfl
theorem in_RX2 : Cond.initialized RX2 ∈ wsL_law := wt_1 (List.mem_of_getElem? (i := 1) rfl) rfl
theorem cl_RL_10 : Cond.classLink RL 10 RX3 ∈ wsL_law := wt_2 (List.mem_of_getElem? (i := 59) rfl) rfl
theorem ia_RX3 : Cond.instantiable RX3 29 ∈ wsL_law := wt_2 (List.mem_of_getElem? (i := 60) rfl) rfl
theorem in_RX3 : Cond.initialized RX3 ∈ wsL_law := wt_1 (List.mem_of_getElem? (i := 2) rfl) rfl
theorem ml_RL_9 : Cond.methodLink RL 9 yX2_init ∈ wsL_law := wt_1 (List.mem_of_getElem? (i := 7) rfl) rfl
theorem im_yX2_init : Cond.instanceMethod yX2_init ∈ wsL_law := wt_1 (List.mem_of_getElem? (i := 8) rfl) rfl
theorem cd_yX2_init : Cond.code yX2_init cX2_init 1 none ∈ wsL_law := wt_1 (List.mem_of_getElem? (i := 9) rfl) rfl
theorem ml_RX2_1 : Cond.methodLink RX2 1 objectInit ∈ wsL_law := wt_1 (List.mem_of_getElem? (i := 10) rfl) rfl
theorem im_objectInit : Cond.instanceMethod objectInit ∈ wsL_law := wt_1 (List.mem_of_getElem? (i := 11) rfl) rfl
theorem cd_objectInit : Cond.code objectInit ⟨#[0xb1]⟩ 1 none ∈ wsL_law := wt_1 (List.mem_of_getElem? (i := 12) rfl) rfl
theorem cl_RX2_9 : Cond.classLink RX2 9 RX1 ∈ wsL_law := wt_1 (List.mem_of_getElem? (i := 13) rfl) rfl
theorem fl_RX2_11 : Cond.fieldLink RX2 11 "PostHall" "messages" "[LPostHall$Message;" ∈ wsL_law := wt_1 (List.mem_of_getElem? (i := 17) rfl) rfl
theorem cl_RX2_15 : Cond.classLink RX2 15 RX0 ∈ wsL_law := wt_1 (List.mem_of_getElem? (i := 15) rfl) rfl
theorem fl_RX2_17 : Cond.fieldLink RX2 17 "PostHall" "counters" "[LPostHall$Counter;" ∈ wsL_law := wt_1 (List.mem_of_getElem? (i := 18) rfl) rfl
theorem fl_RX2_21 : Cond.fieldLink RX2 21 "PostHall" "firstFallen" "I" ∈ wsL_law := wt_1 (List.mem_of_getElem? (i := 26) rfl) rfl
theorem ml_RL_12 : Cond.methodLink RL 12 yX3_init ∈ wsL_law := wt_2 (List.mem_of_getElem? (i := 61) rfl) rfl
theorem im_yX3_init : Cond.instanceMethod yX3_init ∈ wsL_law := wt_2 (List.mem_of_getElem? (i := 62) rfl) rfl
theorem cd_yX3_init : Cond.code yX3_init cX3_init 1 none ∈ wsL_law := wt_2 (List.mem_of_getElem? (i := 63) rfl) rfl
theorem ml_RX3_1 : Cond.methodLink RX3 1 objectInit ∈ wsL_law := wt_2 (List.mem_of_getElem? (i := 64) rfl) rfl
theorem ac_int : Cond.arrayClass .int ∈ wsL_law := wt_1 (List.mem_of_getElem? (i := 92) rfl) rfl
theorem fl_RX3_7 : Cond.fieldLink RX3 7 "PostHallModel" "base" "[I" ∈ wsL_law := wt_2 (List.mem_of_getElem? (i := 66) rfl) rfl
theorem fl_RX3_13 : Cond.fieldLink RX3 13 "PostHallModel" "depth" "[I" ∈ wsL_law := wt_2 (List.mem_of_getElem? (i := 67) rfl) rfl
theorem fl_RX3_16 : Cond.fieldLink RX3 16 "PostHallModel" "stamp" "[I" ∈ wsL_law := wt_2 (List.mem_of_getElem? (i := 68) rfl) rfl
theorem fl_RX3_19 : Cond.fieldLink RX3 19 "PostHallModel" "size" "[I" ∈ wsL_law := wt_2 (List.mem_of_getElem? (i := 69) rfl) rfl
theorem fl_RX3_22 : Cond.fieldLink RX3 22 "PostHallModel" "item" "[I" ∈ wsL_law := wt_2 (List.mem_of_getElem? (i := 70) rfl) rfl
theorem ac_boolean : Cond.arrayClass .boolean ∈ wsL_law := wt_2 (List.mem_of_getElem? (i := 153) rfl) rfl
theorem fl_RX3_25 : Cond.fieldLink RX3 25 "PostHallModel" "isSet" "[Z" ∈ wsL_law := wt_2 (List.mem_of_getElem? (i := 71) rfl) rfl
theorem fl_RX3_29 : Cond.fieldLink RX3 29 "PostHallModel" "isShut" "[Z" ∈ wsL_law := wt_2 (List.mem_of_getElem? (i := 72) rfl) rfl
theorem fl_RX3_32 : Cond.fieldLink RX3 32 "PostHallModel" "isPatient" "[Z" ∈ wsL_law := wt_2 (List.mem_of_getElem? (i := 73) rfl) rfl
theorem fl_RX3_35 : Cond.fieldLink RX3 35 "PostHallModel" "asksBase" "[I" ∈ wsL_law := wt_2 (List.mem_of_getElem? (i := 74) rfl) rfl
theorem fl_RX3_38 : Cond.fieldLink RX3 38 "PostHallModel" "asksDepth" "[I" ∈ wsL_law := wt_2 (List.mem_of_getElem? (i := 75) rfl) rfl
theorem fl_RX3_41 : Cond.fieldLink RX3 41 "PostHallModel" "wantsBase" "[I" ∈ wsL_law := wt_2 (List.mem_of_getElem? (i := 76) rfl) rfl
theorem fl_RX3_44 : Cond.fieldLink RX3 44 "PostHallModel" "wantsDepth" "[I" ∈ wsL_law := wt_2 (List.mem_of_getElem? (i := 77) rfl) rfl
theorem fl_RX3_47 : Cond.fieldLink RX3 47 "PostHallModel" "job" "[I" ∈ wsL_law := wt_2 (List.mem_of_getElem? (i := 78) rfl) rfl
theorem fl_RX3_50 : Cond.fieldLink RX3 50 "PostHallModel" "number" "[I" ∈ wsL_law := wt_2 (List.mem_of_getElem? (i := 79) rfl) rfl
theorem fl_RX3_53 : Cond.fieldLink RX3 53 "PostHallModel" "own" "[I" ∈ wsL_law := wt_2 (List.mem_of_getElem? (i := 80) rfl) rfl
theorem fl_RX3_56 : Cond.fieldLink RX3 56 "PostHallModel" "met" "[I" ∈ wsL_law := wt_2 (List.mem_of_getElem? (i := 81) rfl) rfl
theorem fl_RX3_59 : Cond.fieldLink RX3 59 "PostHallModel" "fell" "[I" ∈ wsL_law := wt_2 (List.mem_of_getElem? (i := 82) rfl) rfl
theorem fl_RX3_62 : Cond.fieldLink RX3 62 "PostHallModel" "message" "[I" ∈ wsL_law := wt_2 (List.mem_of_getElem? (i := 90) rfl) rfl
theorem fl_RX3_65 : Cond.fieldLink RX3 65 "PostHallModel" "next" "[I" ∈ wsL_law := wt_2 (List.mem_of_getElem? (i := 91) rfl) rfl
theorem fl_RX3_68 : Cond.fieldLink RX3 68 "PostHallModel" "meets" "[I" ∈ wsL_law := wt_2 (List.mem_of_getElem? (i := 92) rfl) rfl
theorem fl_RX3_71 : Cond.fieldLink RX3 71 "PostHallModel" "place" "[I" ∈ wsL_law := wt_2 (List.mem_of_getElem? (i := 93) rfl) rfl
theorem ml_RL_13 : Cond.methodLink RL 13 yX2_slip ∈ wsL_law := wt_1 (List.mem_of_getElem? (i := 48) rfl) rfl
theorem im_yX2_slip : Cond.instanceMethod yX2_slip ∈ wsL_law := wt_1 (List.mem_of_getElem? (i := 49) rfl) rfl
theorem se_yX2_slip : Cond.selects RX2 yX2_slip yX2_slip ∈ wsL_law := wt_1 (List.mem_of_getElem? (i := 50) rfl) rfl
theorem cd_yX2_slip : Cond.code yX2_slip cX2_slip 3 (some .int) ∈ wsL_law := wt_1 (List.mem_of_getElem? (i := 51) rfl) rfl
theorem ml_RX2_25 : Cond.methodLink RX2 25 yX2_enter ∈ wsL_law := wt_1 (List.mem_of_getElem? (i := 52) rfl) rfl
theorem im_yX2_enter : Cond.instanceMethod yX2_enter ∈ wsL_law := wt_1 (List.mem_of_getElem? (i := 54) rfl) rfl
theorem se_yX2_enter : Cond.selects RX2 yX2_enter yX2_enter ∈ wsL_law := wt_s (y := yX2_enter) (n := 10) (List.mem_append_left _ (List.mem_of_getElem? (i := 0) rfl)) rfl
theorem cd_yX2_enter : Cond.code yX2_enter cX2_enter 6 (some .int) ∈ wsL_law := wt_1 (List.mem_of_getElem? (i := 55) rfl) rfl
theorem fl_RX2_130 : Cond.fieldLink RX2 130 "PostHall" "messageCount" "I" ∈ wsL_law := wt_1 (List.mem_of_getElem? (i := 19) rfl) rfl
theorem ia_RX1 : Cond.instantiable RX1 6 ∈ wsL_law := wt_1 (List.mem_of_getElem? (i := 56) rfl) rfl
theorem in_RX1 : Cond.initialized RX1 ∈ wsL_law := wt_1 (List.mem_of_getElem? (i := 3) rfl) rfl
theorem fl_RX2_59 : Cond.fieldLink RX2 59 "PostHall$Message" "stamp" "I" ∈ wsL_law := wt_1 (List.mem_of_getElem? (i := 78) rfl) rfl
theorem fl_RX2_135 : Cond.fieldLink RX2 135 "PostHall$Message" "number" "I" ∈ wsL_law := wt_1 (List.mem_of_getElem? (i := 69) rfl) rfl
theorem ml_RX2_133 : Cond.methodLink RX2 133 yX1_init ∈ wsL_law := wt_1 (List.mem_of_getElem? (i := 57) rfl) rfl
theorem im_yX1_init : Cond.instanceMethod yX1_init ∈ wsL_law := wt_1 (List.mem_of_getElem? (i := 58) rfl) rfl
theorem cd_yX1_init : Cond.code yX1_init cX1_init 5 none ∈ wsL_law := wt_1 (List.mem_of_getElem? (i := 59) rfl) rfl
theorem ml_RX1_3 : Cond.methodLink RX1 3 objectInit ∈ wsL_law := wt_1 (List.mem_of_getElem? (i := 60) rfl) rfl
theorem fl_RX1_9 : Cond.fieldLink RX1 9 "PostHall$Message" "number" "I" ∈ wsL_law := wt_1 (List.mem_of_getElem? (i := 68) rfl) rfl
theorem fl_RX1_15 : Cond.fieldLink RX1 15 "PostHall$Message" "base" "I" ∈ wsL_law := wt_1 (List.mem_of_getElem? (i := 70) rfl) rfl
theorem fl_RX1_18 : Cond.fieldLink RX1 18 "PostHall$Message" "depth" "I" ∈ wsL_law := wt_1 (List.mem_of_getElem? (i := 72) rfl) rfl
theorem fl_RX1_25 : Cond.fieldLink RX1 25 "PostHall$Message" "figures" "Z" ∈ wsL_law := wt_1 (List.mem_of_getElem? (i := 74) rfl) rfl
theorem fl_RX1_29 : Cond.fieldLink RX1 29 "PostHall$Message" "places" "[I" ∈ wsL_law := wt_1 (List.mem_of_getElem? (i := 76) rfl) rfl
theorem st_yX2_isOfFigures : Cond.static yX2_isOfFigures ∈ wsL_law := wt_1 (List.mem_of_getElem? (i := 62) rfl) rfl
theorem cd_yX2_isOfFigures : Cond.code yX2_isOfFigures cX2_isOfFigures 2 (some .boolean) ∈ wsL_law := wt_1 (List.mem_of_getElem? (i := 63) rfl) rfl
theorem ml_RX1_33 : Cond.methodLink RX1 33 yX1_fill ∈ wsL_law := wt_1 (List.mem_of_getElem? (i := 64) rfl) rfl
theorem im_yX1_fill : Cond.instanceMethod yX1_fill ∈ wsL_law := wt_1 (List.mem_of_getElem? (i := 65) rfl) rfl
theorem se_yX1_fill : Cond.selects RX1 yX1_fill yX1_fill ∈ wsL_law := wt_1 (List.mem_of_getElem? (i := 66) rfl) rfl
theorem cd_yX1_fill : Cond.code yX1_fill cX1_fill 3 none ∈ wsL_law := wt_1 (List.mem_of_getElem? (i := 67) rfl) rfl
theorem ml_RL_17 : Cond.methodLink RL 17 yX3_slip ∈ wsL_law := wt_2 (List.mem_of_getElem? (i := 154) rfl) rfl
theorem im_yX3_slip : Cond.instanceMethod yX3_slip ∈ wsL_law := wt_2 (List.mem_of_getElem? (i := 155) rfl) rfl
theorem se_yX3_slip : Cond.selects RX3 yX3_slip yX3_slip ∈ wsL_law := wt_2 (List.mem_of_getElem? (i := 156) rfl) rfl
theorem cd_yX3_slip : Cond.code yX3_slip cX3_slip 4 (some .int) ∈ wsL_law := wt_2 (List.mem_of_getElem? (i := 157) rfl) rfl
theorem fl_RX3_74 : Cond.fieldLink RX3 74 "PostHallModel" "messages" "I" ∈ wsL_law := wt_2 (List.mem_of_getElem? (i := 65) rfl) rfl
theorem ml_RX3_78 : Cond.methodLink RX3 78 yX3_in ∈ wsL_law := wt_2 (List.mem_of_getElem? (i := 158) rfl) rfl
theorem st_yX3_in : Cond.static yX3_in ∈ wsL_law := wt_2 (List.mem_of_getElem? (i := 159) rfl) rfl
theorem cd_yX3_in : Cond.code yX3_in cX3_in 3 (some .boolean) ∈ wsL_law := wt_2 (List.mem_of_getElem? (i := 160) rfl) rfl
theorem ml_RX3_93 : Cond.methodLink RX3 93 yX3_kept ∈ wsL_law := wt_2 (List.mem_of_getElem? (i := 161) rfl) rfl
theorem im_yX3_kept : Cond.instanceMethod yX3_kept ∈ wsL_law := wt_2 (List.mem_of_getElem? (i := 163) rfl) rfl
theorem se_yX3_kept : Cond.selects RX3 yX3_kept yX3_kept ∈ wsL_law := wt_s (y := yX3_kept) (n := 29) (List.mem_append_left _ (List.mem_of_getElem? (i := 10) rfl)) rfl
theorem cd_yX3_kept : Cond.code yX3_kept cX3_kept 6 (some .int) ∈ wsL_law := wt_2 (List.mem_of_getElem? (i := 164) rfl) rfl
theorem ml_RL_18 : Cond.methodLink RL 18 yX2_bundle ∈ wsL_law := wt_1 (List.mem_of_getElem? (i := 93) rfl) rfl
theorem im_yX2_bundle : Cond.instanceMethod yX2_bundle ∈ wsL_law := wt_1 (List.mem_of_getElem? (i := 94) rfl) rfl
theorem se_yX2_bundle : Cond.selects RX2 yX2_bundle yX2_bundle ∈ wsL_law := wt_1 (List.mem_of_getElem? (i := 95) rfl) rfl
theorem cd_yX2_bundle : Cond.code yX2_bundle cX2_bundle 4 (some .int) ∈ wsL_law := wt_1 (List.mem_of_getElem? (i := 96) rfl) rfl
theorem ml_RX2_29 : Cond.methodLink RX2 29 yX2_isKind ∈ wsL_law := wt_1 (List.mem_of_getElem? (i := 97) rfl) rfl
theorem st_yX2_isKind : Cond.static yX2_isKind ∈ wsL_law := wt_1 (List.mem_of_getElem? (i := 98) rfl) rfl
theorem cd_yX2_isKind : Cond.code yX2_isKind cX2_isKind 3 (some .boolean) ∈ wsL_law := wt_1 (List.mem_of_getElem? (i := 99) rfl) rfl
theorem ml_RL_22 : Cond.methodLink RL 22 yX3_bundle ∈ wsL_law := wt_2 (List.mem_of_getElem? (i := 165) rfl) rfl
theorem im_yX3_bundle : Cond.instanceMethod yX3_bundle ∈ wsL_law := wt_2 (List.mem_of_getElem? (i := 166) rfl) rfl
theorem se_yX3_bundle : Cond.selects RX3 yX3_bundle yX3_bundle ∈ wsL_law := wt_2 (List.mem_of_getElem? (i := 167) rfl) rfl
theorem cd_yX3_bundle : Cond.code yX3_bundle cX3_bundle 4 (some .int) ∈ wsL_law := wt_2 (List.mem_of_getElem? (i := 168) rfl) rfl
theorem ml_RL_23 : Cond.methodLink RL 23 yX2_place ∈ wsL_law := wt_1 (List.mem_of_getElem? (i := 100) rfl) rfl
theorem im_yX2_place : Cond.instanceMethod yX2_place ∈ wsL_law := wt_1 (List.mem_of_getElem? (i := 101) rfl) rfl
theorem se_yX2_place : Cond.selects RX2 yX2_place yX2_place ∈ wsL_law := wt_1 (List.mem_of_getElem? (i := 102) rfl) rfl
theorem cd_yX2_place : Cond.code yX2_place cX2_place 6 (some .int) ∈ wsL_law := wt_1 (List.mem_of_getElem? (i := 103) rfl) rfl
theorem fl_RX2_45 : Cond.fieldLink RX2 45 "PostHall$Message" "places" "[I" ∈ wsL_law := wt_1 (List.mem_of_getElem? (i := 77) rfl) rfl
theorem ml_RX2_33 : Cond.methodLink RX2 33 yX2_messageAt ∈ wsL_law := wt_1 (List.mem_of_getElem? (i := 104) rfl) rfl
theorem im_yX2_messageAt : Cond.instanceMethod yX2_messageAt ∈ wsL_law := wt_1 (List.mem_of_getElem? (i := 106) rfl) rfl
theorem se_yX2_messageAt : Cond.selects RX2 yX2_messageAt yX2_messageAt ∈ wsL_law := wt_s (y := yX2_messageAt) (n := 10) (List.mem_append_left _ (List.mem_of_getElem? (i := 1) rfl)) rfl
theorem cd_yX2_messageAt : Cond.code yX2_messageAt cX2_messageAt 2 (some (.object "PostHall$Message")) ∈ wsL_law := wt_1 (List.mem_of_getElem? (i := 107) rfl) rfl
theorem ml_RX2_37 : Cond.methodLink RX2 37 yX1_hasMessagePlace ∈ wsL_law := wt_1 (List.mem_of_getElem? (i := 108) rfl) rfl
theorem im_yX1_hasMessagePlace : Cond.instanceMethod yX1_hasMessagePlace ∈ wsL_law := wt_1 (List.mem_of_getElem? (i := 109) rfl) rfl
theorem se_yX1_hasMessagePlace : Cond.selects RX1 yX1_hasMessagePlace yX1_hasMessagePlace ∈ wsL_law := wt_1 (List.mem_of_getElem? (i := 110) rfl) rfl
theorem cd_yX1_hasMessagePlace : Cond.code yX1_hasMessagePlace cX1_hasMessagePlace 2 (some .boolean) ∈ wsL_law := wt_1 (List.mem_of_getElem? (i := 111) rfl) rfl
theorem ml_RX2_41 : Cond.methodLink RX2 41 yX1_holds ∈ wsL_law := wt_1 (List.mem_of_getElem? (i := 112) rfl) rfl
theorem im_yX1_holds : Cond.instanceMethod yX1_holds ∈ wsL_law := wt_1 (List.mem_of_getElem? (i := 113) rfl) rfl
theorem se_yX1_holds : Cond.selects RX1 yX1_holds yX1_holds ∈ wsL_law := wt_1 (List.mem_of_getElem? (i := 114) rfl) rfl
theorem cd_yX1_holds : Cond.code yX1_holds cX1_holds 2 (some .boolean) ∈ wsL_law := wt_1 (List.mem_of_getElem? (i := 115) rfl) rfl
theorem ml_RX1_40 : Cond.methodLink RX1 40 yX1_fits ∈ wsL_law := wt_1 (List.mem_of_getElem? (i := 116) rfl) rfl
theorem im_yX1_fits : Cond.instanceMethod yX1_fits ∈ wsL_law := wt_1 (List.mem_of_getElem? (i := 117) rfl) rfl
theorem se_yX1_fits : Cond.selects RX1 yX1_fits yX1_fits ∈ wsL_law := wt_1 (List.mem_of_getElem? (i := 118) rfl) rfl
theorem cd_yX1_fits : Cond.code yX1_fits cX1_fits 3 (some .boolean) ∈ wsL_law := wt_1 (List.mem_of_getElem? (i := 119) rfl) rfl
theorem st_yX2_passesFor : Cond.static yX2_passesFor ∈ wsL_law := wt_1 (List.mem_of_getElem? (i := 121) rfl) rfl
theorem cd_yX2_passesFor : Cond.code yX2_passesFor cX2_passesFor 2 (some .boolean) ∈ wsL_law := wt_1 (List.mem_of_getElem? (i := 122) rfl) rfl
theorem ml_RL_26 : Cond.methodLink RL 26 yX3_place ∈ wsL_law := wt_2 (List.mem_of_getElem? (i := 169) rfl) rfl
theorem im_yX3_place : Cond.instanceMethod yX3_place ∈ wsL_law := wt_2 (List.mem_of_getElem? (i := 170) rfl) rfl
theorem se_yX3_place : Cond.selects RX3 yX3_place yX3_place ∈ wsL_law := wt_2 (List.mem_of_getElem? (i := 171) rfl) rfl
theorem cd_yX3_place : Cond.code yX3_place cX3_place 4 (some .int) ∈ wsL_law := wt_2 (List.mem_of_getElem? (i := 172) rfl) rfl
theorem ml_RX3_97 : Cond.methodLink RX3 97 yX3_isMessage ∈ wsL_law := wt_2 (List.mem_of_getElem? (i := 173) rfl) rfl
theorem im_yX3_isMessage : Cond.instanceMethod yX3_isMessage ∈ wsL_law := wt_2 (List.mem_of_getElem? (i := 175) rfl) rfl
theorem se_yX3_isMessage : Cond.selects RX3 yX3_isMessage yX3_isMessage ∈ wsL_law := wt_s (y := yX3_isMessage) (n := 29) (List.mem_append_left _ (List.mem_of_getElem? (i := 11) rfl)) rfl
theorem cd_yX3_isMessage : Cond.code yX3_isMessage cX3_isMessage 2 (some .boolean) ∈ wsL_law := wt_2 (List.mem_of_getElem? (i := 176) rfl) rfl
theorem ml_RX3_100 : Cond.methodLink RX3 100 yX3_isBundle ∈ wsL_law := wt_2 (List.mem_of_getElem? (i := 177) rfl) rfl
theorem im_yX3_isBundle : Cond.instanceMethod yX3_isBundle ∈ wsL_law := wt_2 (List.mem_of_getElem? (i := 179) rfl) rfl
theorem se_yX3_isBundle : Cond.selects RX3 yX3_isBundle yX3_isBundle ∈ wsL_law := wt_s (y := yX3_isBundle) (n := 29) (List.mem_append_left _ (List.mem_of_getElem? (i := 12) rfl)) rfl
theorem cd_yX3_isBundle : Cond.code yX3_isBundle cX3_isBundle 2 (some .boolean) ∈ wsL_law := wt_2 (List.mem_of_getElem? (i := 180) rfl) rfl
theorem ml_RX3_86 : Cond.methodLink RX3 86 yX3_isFigures ∈ wsL_law := wt_2 (List.mem_of_getElem? (i := 181) rfl) rfl
theorem im_yX3_isFigures : Cond.instanceMethod yX3_isFigures ∈ wsL_law := wt_2 (List.mem_of_getElem? (i := 183) rfl) rfl
theorem se_yX3_isFigures : Cond.selects RX3 yX3_isFigures yX3_isFigures ∈ wsL_law := wt_s (y := yX3_isFigures) (n := 29) (List.mem_append_left _ (List.mem_of_getElem? (i := 13) rfl)) rfl
theorem cd_yX3_isFigures : Cond.code yX3_isFigures cX3_isFigures 2 (some .boolean) ∈ wsL_law := wt_2 (List.mem_of_getElem? (i := 184) rfl) rfl
theorem ml_RX3_103 : Cond.methodLink RX3 103 yX3_holds ∈ wsL_law := wt_2 (List.mem_of_getElem? (i := 185) rfl) rfl
theorem im_yX3_holds : Cond.instanceMethod yX3_holds ∈ wsL_law := wt_2 (List.mem_of_getElem? (i := 187) rfl) rfl
theorem se_yX3_holds : Cond.selects RX3 yX3_holds yX3_holds ∈ wsL_law := wt_s (y := yX3_holds) (n := 29) (List.mem_append_left _ (List.mem_of_getElem? (i := 14) rfl)) rfl
theorem cd_yX3_holds : Cond.code yX3_holds cX3_holds 3 (some .boolean) ∈ wsL_law := wt_2 (List.mem_of_getElem? (i := 188) rfl) rfl
theorem ml_RX3_90 : Cond.methodLink RX3 90 yX3_isOf ∈ wsL_law := wt_2 (List.mem_of_getElem? (i := 189) rfl) rfl
theorem im_yX3_isOf : Cond.instanceMethod yX3_isOf ∈ wsL_law := wt_2 (List.mem_of_getElem? (i := 191) rfl) rfl
theorem se_yX3_isOf : Cond.selects RX3 yX3_isOf yX3_isOf ∈ wsL_law := wt_s (y := yX3_isOf) (n := 29) (List.mem_append_left _ (List.mem_of_getElem? (i := 15) rfl)) rfl
theorem cd_yX3_isOf : Cond.code yX3_isOf cX3_isOf 4 (some .boolean) ∈ wsL_law := wt_2 (List.mem_of_getElem? (i := 192) rfl) rfl
theorem ml_RX3_82 : Cond.methodLink RX3 82 yX3_passes ∈ wsL_law := wt_2 (List.mem_of_getElem? (i := 193) rfl) rfl
theorem st_yX3_passes : Cond.static yX3_passes ∈ wsL_law := wt_2 (List.mem_of_getElem? (i := 194) rfl) rfl
theorem cd_yX3_passes : Cond.code yX3_passes cX3_passes 2 (some .boolean) ∈ wsL_law := wt_2 (List.mem_of_getElem? (i := 195) rfl) rfl
theorem ml_RL_27 : Cond.methodLink RL 27 yX2_placed ∈ wsL_law := wt_1 (List.mem_of_getElem? (i := 123) rfl) rfl
theorem im_yX2_placed : Cond.instanceMethod yX2_placed ∈ wsL_law := wt_1 (List.mem_of_getElem? (i := 124) rfl) rfl
theorem se_yX2_placed : Cond.selects RX2 yX2_placed yX2_placed ∈ wsL_law := wt_1 (List.mem_of_getElem? (i := 125) rfl) rfl
theorem cd_yX2_placed : Cond.code yX2_placed cX2_placed 4 (some .int) ∈ wsL_law := wt_1 (List.mem_of_getElem? (i := 126) rfl) rfl
theorem ml_RL_30 : Cond.methodLink RL 30 yX3_placed ∈ wsL_law := wt_2 (List.mem_of_getElem? (i := 196) rfl) rfl
theorem im_yX3_placed : Cond.instanceMethod yX3_placed ∈ wsL_law := wt_2 (List.mem_of_getElem? (i := 197) rfl) rfl
theorem se_yX3_placed : Cond.selects RX3 yX3_placed yX3_placed ∈ wsL_law := wt_2 (List.mem_of_getElem? (i := 198) rfl) rfl
theorem cd_yX3_placed : Cond.code yX3_placed cX3_placed 3 (some .int) ∈ wsL_law := wt_2 (List.mem_of_getElem? (i := 199) rfl) rfl
theorem ml_RL_31 : Cond.methodLink RL 31 yX2_figure ∈ wsL_law := wt_1 (List.mem_of_getElem? (i := 127) rfl) rfl
theorem im_yX2_figure : Cond.instanceMethod yX2_figure ∈ wsL_law := wt_1 (List.mem_of_getElem? (i := 128) rfl) rfl
theorem se_yX2_figure : Cond.selects RX2 yX2_figure yX2_figure ∈ wsL_law := wt_1 (List.mem_of_getElem? (i := 129) rfl) rfl
theorem cd_yX2_figure : Cond.code yX2_figure cX2_figure 5 (some .int) ∈ wsL_law := wt_1 (List.mem_of_getElem? (i := 130) rfl) rfl
theorem ml_RX2_49 : Cond.methodLink RX2 49 yX1_hasNumber ∈ wsL_law := wt_1 (List.mem_of_getElem? (i := 131) rfl) rfl
theorem im_yX1_hasNumber : Cond.instanceMethod yX1_hasNumber ∈ wsL_law := wt_1 (List.mem_of_getElem? (i := 132) rfl) rfl
theorem se_yX1_hasNumber : Cond.selects RX1 yX1_hasNumber yX1_hasNumber ∈ wsL_law := wt_1 (List.mem_of_getElem? (i := 133) rfl) rfl
theorem cd_yX1_hasNumber : Cond.code yX1_hasNumber cX1_hasNumber 2 (some .boolean) ∈ wsL_law := wt_1 (List.mem_of_getElem? (i := 134) rfl) rfl
theorem ml_RX2_52 : Cond.methodLink RX2 52 yX1_lowestBits ∈ wsL_law := wt_1 (List.mem_of_getElem? (i := 135) rfl) rfl
theorem im_yX1_lowestBits : Cond.instanceMethod yX1_lowestBits ∈ wsL_law := wt_1 (List.mem_of_getElem? (i := 136) rfl) rfl
theorem se_yX1_lowestBits : Cond.selects RX1 yX1_lowestBits yX1_lowestBits ∈ wsL_law := wt_1 (List.mem_of_getElem? (i := 137) rfl) rfl
theorem cd_yX1_lowestBits : Cond.code yX1_lowestBits cX1_lowestBits 2 (some .int) ∈ wsL_law := wt_1 (List.mem_of_getElem? (i := 138) rfl) rfl
theorem ml_RL_34 : Cond.methodLink RL 34 yX3_figure ∈ wsL_law := wt_2 (List.mem_of_getElem? (i := 200) rfl) rfl
theorem im_yX3_figure : Cond.instanceMethod yX3_figure ∈ wsL_law := wt_2 (List.mem_of_getElem? (i := 201) rfl) rfl
theorem se_yX3_figure : Cond.selects RX3 yX3_figure yX3_figure ∈ wsL_law := wt_2 (List.mem_of_getElem? (i := 202) rfl) rfl
theorem cd_yX3_figure : Cond.code yX3_figure cX3_figure 4 (some .int) ∈ wsL_law := wt_2 (List.mem_of_getElem? (i := 203) rfl) rfl
theorem ml_RX3_107 : Cond.methodLink RX3 107 yX3_cut ∈ wsL_law := wt_2 (List.mem_of_getElem? (i := 204) rfl) rfl
theorem st_yX3_cut : Cond.static yX3_cut ∈ wsL_law := wt_2 (List.mem_of_getElem? (i := 205) rfl) rfl
theorem cd_yX3_cut : Cond.code yX3_cut cX3_cut 2 (some .int) ∈ wsL_law := wt_2 (List.mem_of_getElem? (i := 206) rfl) rfl
theorem co_RX3_106 : Cond.constant RX3 106 (65535) ∈ wsL_law := wt_2 (List.mem_of_getElem? (i := 207) rfl) rfl
theorem ml_RL_35 : Cond.methodLink RL 35 yX2_number ∈ wsL_law := wt_1 (List.mem_of_getElem? (i := 139) rfl) rfl
theorem im_yX2_number : Cond.instanceMethod yX2_number ∈ wsL_law := wt_1 (List.mem_of_getElem? (i := 140) rfl) rfl
theorem se_yX2_number : Cond.selects RX2 yX2_number yX2_number ∈ wsL_law := wt_1 (List.mem_of_getElem? (i := 141) rfl) rfl
theorem cd_yX2_number : Cond.code yX2_number cX2_number 4 (some .int) ∈ wsL_law := wt_1 (List.mem_of_getElem? (i := 142) rfl) rfl
theorem fl_RX2_56 : Cond.fieldLink RX2 56 "PostHall$Message" "depth" "I" ∈ wsL_law := wt_1 (List.mem_of_getElem? (i := 73) rfl) rfl
theorem ml_RL_38 : Cond.methodLink RL 38 yX3_number ∈ wsL_law := wt_2 (List.mem_of_getElem? (i := 208) rfl) rfl
theorem im_yX3_number : Cond.instanceMethod yX3_number ∈ wsL_law := wt_2 (List.mem_of_getElem? (i := 209) rfl) rfl
theorem se_yX3_number : Cond.selects RX3 yX3_number yX3_number ∈ wsL_law := wt_2 (List.mem_of_getElem? (i := 210) rfl) rfl
theorem cd_yX3_number : Cond.code yX3_number cX3_number 3 (some .int) ∈ wsL_law := wt_2 (List.mem_of_getElem? (i := 211) rfl) rfl
theorem ml_RL_39 : Cond.methodLink RL 39 yX2_is ∈ wsL_law := wt_1 (List.mem_of_getElem? (i := 143) rfl) rfl
theorem im_yX2_is : Cond.instanceMethod yX2_is ∈ wsL_law := wt_1 (List.mem_of_getElem? (i := 144) rfl) rfl
theorem se_yX2_is : Cond.selects RX2 yX2_is yX2_is ∈ wsL_law := wt_1 (List.mem_of_getElem? (i := 145) rfl) rfl
theorem cd_yX2_is : Cond.code yX2_is cX2_is 5 (some .int) ∈ wsL_law := wt_1 (List.mem_of_getElem? (i := 146) rfl) rfl
theorem ml_RX2_62 : Cond.methodLink RX2 62 yX1_fits ∈ wsL_law := wt_1 (List.mem_of_getElem? (i := 147) rfl) rfl
theorem ml_RX2_65 : Cond.methodLink RX2 65 yX2_asInt ∈ wsL_law := wt_1 (List.mem_of_getElem? (i := 148) rfl) rfl
theorem st_yX2_asInt : Cond.static yX2_asInt ∈ wsL_law := wt_1 (List.mem_of_getElem? (i := 149) rfl) rfl
theorem cd_yX2_asInt : Cond.code yX2_asInt cX2_asInt 1 (some .int) ∈ wsL_law := wt_1 (List.mem_of_getElem? (i := 150) rfl) rfl
theorem ml_RL_42 : Cond.methodLink RL 42 yX3_is ∈ wsL_law := wt_2 (List.mem_of_getElem? (i := 212) rfl) rfl
theorem im_yX3_is : Cond.instanceMethod yX3_is ∈ wsL_law := wt_2 (List.mem_of_getElem? (i := 213) rfl) rfl
theorem se_yX3_is : Cond.selects RX3 yX3_is yX3_is ∈ wsL_law := wt_2 (List.mem_of_getElem? (i := 214) rfl) rfl
theorem cd_yX3_is : Cond.code yX3_is cX3_is 4 (some .int) ∈ wsL_law := wt_2 (List.mem_of_getElem? (i := 215) rfl) rfl
theorem ml_RX3_111 : Cond.methodLink RX3 111 yX3_isView ∈ wsL_law := wt_2 (List.mem_of_getElem? (i := 216) rfl) rfl
theorem st_yX3_isView : Cond.static yX3_isView ∈ wsL_law := wt_2 (List.mem_of_getElem? (i := 217) rfl) rfl
theorem cd_yX3_isView : Cond.code yX3_isView cX3_isView 2 (some .boolean) ∈ wsL_law := wt_2 (List.mem_of_getElem? (i := 218) rfl) rfl
theorem ml_RL_43 : Cond.methodLink RL 43 yX2_about ∈ wsL_law := wt_1 (List.mem_of_getElem? (i := 151) rfl) rfl
theorem im_yX2_about : Cond.instanceMethod yX2_about ∈ wsL_law := wt_1 (List.mem_of_getElem? (i := 152) rfl) rfl
theorem se_yX2_about : Cond.selects RX2 yX2_about yX2_about ∈ wsL_law := wt_1 (List.mem_of_getElem? (i := 153) rfl) rfl
theorem cd_yX2_about : Cond.code yX2_about cX2_about 4 (some .int) ∈ wsL_law := wt_1 (List.mem_of_getElem? (i := 154) rfl) rfl
theorem fl_RX2_69 : Cond.fieldLink RX2 69 "PostHall$Message" "base" "I" ∈ wsL_law := wt_1 (List.mem_of_getElem? (i := 71) rfl) rfl
theorem ml_RL_46 : Cond.methodLink RL 46 yX3_about ∈ wsL_law := wt_2 (List.mem_of_getElem? (i := 219) rfl) rfl
theorem im_yX3_about : Cond.instanceMethod yX3_about ∈ wsL_law := wt_2 (List.mem_of_getElem? (i := 220) rfl) rfl
theorem se_yX3_about : Cond.selects RX3 yX3_about yX3_about ∈ wsL_law := wt_2 (List.mem_of_getElem? (i := 221) rfl) rfl
theorem cd_yX3_about : Cond.code yX3_about cX3_about 3 (some .int) ∈ wsL_law := wt_2 (List.mem_of_getElem? (i := 222) rfl) rfl
theorem ml_RL_47 : Cond.methodLink RL 47 yX2_counter ∈ wsL_law := wt_1 (List.mem_of_getElem? (i := 155) rfl) rfl
theorem im_yX2_counter : Cond.instanceMethod yX2_counter ∈ wsL_law := wt_1 (List.mem_of_getElem? (i := 156) rfl) rfl
theorem se_yX2_counter : Cond.selects RX2 yX2_counter yX2_counter ∈ wsL_law := wt_1 (List.mem_of_getElem? (i := 157) rfl) rfl
theorem cd_yX2_counter : Cond.code yX2_counter cX2_counter 7 (some .int) ∈ wsL_law := wt_1 (List.mem_of_getElem? (i := 158) rfl) rfl
theorem ia_RX0 : Cond.instantiable RX0 12 ∈ wsL_law := wt_1 (List.mem_of_getElem? (i := 159) rfl) rfl
theorem in_RX0 : Cond.initialized RX0 ∈ wsL_law := wt_1 (List.mem_of_getElem? (i := 4) rfl) rfl
theorem fl_RX2_75 : Cond.fieldLink RX2 75 "PostHall" "setCount" "I" ∈ wsL_law := wt_1 (List.mem_of_getElem? (i := 20) rfl) rfl
theorem ml_RX2_72 : Cond.methodLink RX2 72 yX0_init ∈ wsL_law := wt_1 (List.mem_of_getElem? (i := 160) rfl) rfl
theorem im_yX0_init : Cond.instanceMethod yX0_init ∈ wsL_law := wt_1 (List.mem_of_getElem? (i := 161) rfl) rfl
theorem cd_yX0_init : Cond.code yX0_init cX0_init 2 none ∈ wsL_law := wt_1 (List.mem_of_getElem? (i := 162) rfl) rfl
theorem ml_RX0_3 : Cond.methodLink RX0 3 objectInit ∈ wsL_law := wt_1 (List.mem_of_getElem? (i := 163) rfl) rfl
theorem fl_RX0_9 : Cond.fieldLink RX0 9 "PostHall$Counter" "at" "I" ∈ wsL_law := wt_1 (List.mem_of_getElem? (i := 164) rfl) rfl
theorem ml_RX2_78 : Cond.methodLink RX2 78 yX0_setAnew ∈ wsL_law := wt_1 (List.mem_of_getElem? (i := 211) rfl) rfl
theorem im_yX0_setAnew : Cond.instanceMethod yX0_setAnew ∈ wsL_law := wt_1 (List.mem_of_getElem? (i := 212) rfl) rfl
theorem se_yX0_setAnew : Cond.selects RX0 yX0_setAnew yX0_setAnew ∈ wsL_law := wt_1 (List.mem_of_getElem? (i := 213) rfl) rfl
theorem cd_yX0_setAnew : Cond.code yX0_setAnew cX0_setAnew 5 none ∈ wsL_law := wt_1 (List.mem_of_getElem? (i := 214) rfl) rfl
theorem fl_RX0_15 : Cond.fieldLink RX0 15 "PostHall$Counter" "asksBase" "I" ∈ wsL_law := wt_1 (List.mem_of_getElem? (i := 166) rfl) rfl
theorem fl_RX0_18 : Cond.fieldLink RX0 18 "PostHall$Counter" "asksDepth" "I" ∈ wsL_law := wt_1 (List.mem_of_getElem? (i := 167) rfl) rfl
theorem fl_RX0_21 : Cond.fieldLink RX0 21 "PostHall$Counter" "wantsBase" "I" ∈ wsL_law := wt_1 (List.mem_of_getElem? (i := 168) rfl) rfl
theorem fl_RX0_24 : Cond.fieldLink RX0 24 "PostHall$Counter" "wantsDepth" "I" ∈ wsL_law := wt_1 (List.mem_of_getElem? (i := 170) rfl) rfl
theorem fl_RX0_27 : Cond.fieldLink RX0 27 "PostHall$Counter" "job" "I" ∈ wsL_law := wt_1 (List.mem_of_getElem? (i := 172) rfl) rfl
theorem fl_RX0_30 : Cond.fieldLink RX0 30 "PostHall$Counter" "number" "I" ∈ wsL_law := wt_1 (List.mem_of_getElem? (i := 174) rfl) rfl
theorem fl_RX0_33 : Cond.fieldLink RX0 33 "PostHall$Counter" "own" "I" ∈ wsL_law := wt_1 (List.mem_of_getElem? (i := 176) rfl) rfl
theorem fl_RX0_36 : Cond.fieldLink RX0 36 "PostHall$Counter" "patient" "Z" ∈ wsL_law := wt_1 (List.mem_of_getElem? (i := 178) rfl) rfl
theorem fl_RX0_40 : Cond.fieldLink RX0 40 "PostHall$Counter" "shut" "Z" ∈ wsL_law := wt_1 (List.mem_of_getElem? (i := 180) rfl) rfl
theorem fl_RX0_43 : Cond.fieldLink RX0 43 "PostHall$Counter" "met" "I" ∈ wsL_law := wt_1 (List.mem_of_getElem? (i := 182) rfl) rfl
theorem fl_RX0_46 : Cond.fieldLink RX0 46 "PostHall$Counter" "fell" "I" ∈ wsL_law := wt_1 (List.mem_of_getElem? (i := 184) rfl) rfl
theorem ml_RL_51 : Cond.methodLink RL 51 yX3_counter ∈ wsL_law := wt_2 (List.mem_of_getElem? (i := 223) rfl) rfl
theorem im_yX3_counter : Cond.instanceMethod yX3_counter ∈ wsL_law := wt_2 (List.mem_of_getElem? (i := 224) rfl) rfl
theorem se_yX3_counter : Cond.selects RX3 yX3_counter yX3_counter ∈ wsL_law := wt_2 (List.mem_of_getElem? (i := 225) rfl) rfl
theorem cd_yX3_counter : Cond.code yX3_counter cX3_counter 6 (some .int) ∈ wsL_law := wt_2 (List.mem_of_getElem? (i := 226) rfl) rfl
theorem ml_RL_52 : Cond.methodLink RL 52 yX2_job ∈ wsL_law := wt_1 (List.mem_of_getElem? (i := 215) rfl) rfl
theorem im_yX2_job : Cond.instanceMethod yX2_job ∈ wsL_law := wt_1 (List.mem_of_getElem? (i := 216) rfl) rfl
theorem se_yX2_job : Cond.selects RX2 yX2_job yX2_job ∈ wsL_law := wt_1 (List.mem_of_getElem? (i := 217) rfl) rfl
theorem cd_yX2_job : Cond.code yX2_job cX2_job 7 (some .int) ∈ wsL_law := wt_1 (List.mem_of_getElem? (i := 218) rfl) rfl
theorem fl_RX2_89 : Cond.fieldLink RX2 89 "PostHall$Counter" "job" "I" ∈ wsL_law := wt_1 (List.mem_of_getElem? (i := 173) rfl) rfl
theorem fl_RX2_92 : Cond.fieldLink RX2 92 "PostHall$Counter" "number" "I" ∈ wsL_law := wt_1 (List.mem_of_getElem? (i := 175) rfl) rfl
theorem fl_RX2_95 : Cond.fieldLink RX2 95 "PostHall$Counter" "own" "I" ∈ wsL_law := wt_1 (List.mem_of_getElem? (i := 177) rfl) rfl
theorem fl_RX2_98 : Cond.fieldLink RX2 98 "PostHall$Counter" "patient" "Z" ∈ wsL_law := wt_1 (List.mem_of_getElem? (i := 179) rfl) rfl
theorem ml_RX2_82 : Cond.methodLink RX2 82 yX2_counterAt ∈ wsL_law := wt_1 (List.mem_of_getElem? (i := 219) rfl) rfl
theorem im_yX2_counterAt : Cond.instanceMethod yX2_counterAt ∈ wsL_law := wt_1 (List.mem_of_getElem? (i := 221) rfl) rfl
theorem se_yX2_counterAt : Cond.selects RX2 yX2_counterAt yX2_counterAt ∈ wsL_law := wt_s (y := yX2_counterAt) (n := 10) (List.mem_append_left _ (List.mem_of_getElem? (i := 2) rfl)) rfl
theorem cd_yX2_counterAt : Cond.code yX2_counterAt cX2_counterAt 2 (some (.object "PostHall$Counter")) ∈ wsL_law := wt_1 (List.mem_of_getElem? (i := 222) rfl) rfl
theorem ml_RX2_86 : Cond.methodLink RX2 86 yX0_canDo ∈ wsL_law := wt_1 (List.mem_of_getElem? (i := 223) rfl) rfl
theorem im_yX0_canDo : Cond.instanceMethod yX0_canDo ∈ wsL_law := wt_1 (List.mem_of_getElem? (i := 224) rfl) rfl
theorem se_yX0_canDo : Cond.selects RX0 yX0_canDo yX0_canDo ∈ wsL_law := wt_1 (List.mem_of_getElem? (i := 225) rfl) rfl
theorem cd_yX0_canDo : Cond.code yX0_canDo cX0_canDo 2 (some .boolean) ∈ wsL_law := wt_1 (List.mem_of_getElem? (i := 226) rfl) rfl
theorem ml_RL_55 : Cond.methodLink RL 55 yX3_job ∈ wsL_law := wt_2 (List.mem_of_getElem? (i := 227) rfl) rfl
theorem im_yX3_job : Cond.instanceMethod yX3_job ∈ wsL_law := wt_2 (List.mem_of_getElem? (i := 228) rfl) rfl
theorem se_yX3_job : Cond.selects RX3 yX3_job yX3_job ∈ wsL_law := wt_2 (List.mem_of_getElem? (i := 229) rfl) rfl
theorem cd_yX3_job : Cond.code yX3_job cX3_job 6 (some .int) ∈ wsL_law := wt_2 (List.mem_of_getElem? (i := 230) rfl) rfl
theorem ml_RX3_114 : Cond.methodLink RX3 114 yX3_isCounter ∈ wsL_law := wt_2 (List.mem_of_getElem? (i := 231) rfl) rfl
theorem im_yX3_isCounter : Cond.instanceMethod yX3_isCounter ∈ wsL_law := wt_2 (List.mem_of_getElem? (i := 233) rfl) rfl
theorem se_yX3_isCounter : Cond.selects RX3 yX3_isCounter yX3_isCounter ∈ wsL_law := wt_s (y := yX3_isCounter) (n := 29) (List.mem_append_right _ (List.mem_of_getElem? (i := 0) rfl)) rfl
theorem cd_yX3_isCounter : Cond.code yX3_isCounter cX3_isCounter 2 (some .boolean) ∈ wsL_law := wt_2 (List.mem_of_getElem? (i := 234) rfl) rfl
theorem ml_RL_56 : Cond.methodLink RL 56 yX2_shut ∈ wsL_law := wt_1 (List.mem_of_getElem? (i := 228) rfl) rfl
theorem im_yX2_shut : Cond.instanceMethod yX2_shut ∈ wsL_law := wt_1 (List.mem_of_getElem? (i := 229) rfl) rfl
theorem se_yX2_shut : Cond.selects RX2 yX2_shut yX2_shut ∈ wsL_law := wt_1 (List.mem_of_getElem? (i := 230) rfl) rfl
theorem cd_yX2_shut : Cond.code yX2_shut cX2_shut 5 (some .int) ∈ wsL_law := wt_1 (List.mem_of_getElem? (i := 231) rfl) rfl
theorem fl_RX2_102 : Cond.fieldLink RX2 102 "PostHall$Counter" "shut" "Z" ∈ wsL_law := wt_1 (List.mem_of_getElem? (i := 181) rfl) rfl
theorem ml_RL_60 : Cond.methodLink RL 60 yX3_shut ∈ wsL_law := wt_2 (List.mem_of_getElem? (i := 235) rfl) rfl
theorem im_yX3_shut : Cond.instanceMethod yX3_shut ∈ wsL_law := wt_2 (List.mem_of_getElem? (i := 236) rfl) rfl
theorem se_yX3_shut : Cond.selects RX3 yX3_shut yX3_shut ∈ wsL_law := wt_2 (List.mem_of_getElem? (i := 237) rfl) rfl
theorem cd_yX3_shut : Cond.code yX3_shut cX3_shut 4 (some .int) ∈ wsL_law := wt_2 (List.mem_of_getElem? (i := 238) rfl) rfl
theorem ml_RL_61 : Cond.methodLink RL 61 yX2_send ∈ wsL_law := wt_1 (List.mem_of_getElem? (i := 232) rfl) rfl
theorem im_yX2_send : Cond.instanceMethod yX2_send ∈ wsL_law := wt_1 (List.mem_of_getElem? (i := 233) rfl) rfl
theorem se_yX2_send : Cond.selects RX2 yX2_send yX2_send ∈ wsL_law := wt_1 (List.mem_of_getElem? (i := 234) rfl) rfl
theorem cd_yX2_send : Cond.code yX2_send cX2_send 4 (some .int) ∈ wsL_law := wt_1 (List.mem_of_getElem? (i := 235) rfl) rfl
theorem fl_RX2_105 : Cond.fieldLink RX2 105 "PostHall" "sendCount" "I" ∈ wsL_law := wt_1 (List.mem_of_getElem? (i := 21) rfl) rfl
theorem fl_RX2_108 : Cond.fieldLink RX2 108 "PostHall" "meetings" "I" ∈ wsL_law := wt_1 (List.mem_of_getElem? (i := 22) rfl) rfl
theorem fl_RX2_111 : Cond.fieldLink RX2 111 "PostHall" "done" "I" ∈ wsL_law := wt_1 (List.mem_of_getElem? (i := 23) rfl) rfl
theorem fl_RX2_114 : Cond.fieldLink RX2 114 "PostHall" "lost" "I" ∈ wsL_law := wt_1 (List.mem_of_getElem? (i := 24) rfl) rfl
theorem fl_RX2_117 : Cond.fieldLink RX2 117 "PostHall" "fallen" "I" ∈ wsL_law := wt_1 (List.mem_of_getElem? (i := 25) rfl) rfl
theorem ml_RX2_120 : Cond.methodLink RX2 120 yX2_carry ∈ wsL_law := wt_1 (List.mem_of_getElem? (i := 236) rfl) rfl
theorem im_yX2_carry : Cond.instanceMethod yX2_carry ∈ wsL_law := wt_1 (List.mem_of_getElem? (i := 238) rfl) rfl
theorem se_yX2_carry : Cond.selects RX2 yX2_carry yX2_carry ∈ wsL_law := wt_s (y := yX2_carry) (n := 10) (List.mem_append_left _ (List.mem_of_getElem? (i := 3) rfl)) rfl
theorem cd_yX2_carry : Cond.code yX2_carry cX2_carry 6 (some .int) ∈ wsL_law := wt_1 (List.mem_of_getElem? (i := 239) rfl) rfl
theorem ml_RX2_136 : Cond.methodLink RX2 136 yX0_asksFor ∈ wsL_law := wt_2 (List.mem_of_getElem? (i := 0) rfl) rfl
theorem im_yX0_asksFor : Cond.instanceMethod yX0_asksFor ∈ wsL_law := wt_2 (List.mem_of_getElem? (i := 1) rfl) rfl
theorem se_yX0_asksFor : Cond.selects RX0 yX0_asksFor yX0_asksFor ∈ wsL_law := wt_2 (List.mem_of_getElem? (i := 2) rfl) rfl
theorem cd_yX0_asksFor : Cond.code yX0_asksFor cX0_asksFor 2 (some .boolean) ∈ wsL_law := wt_2 (List.mem_of_getElem? (i := 3) rfl) rfl
theorem ml_RX0_49 : Cond.methodLink RX0 49 yX1_fits ∈ wsL_law := wt_2 (List.mem_of_getElem? (i := 4) rfl) rfl
theorem ml_RX2_139 : Cond.methodLink RX2 139 yX2_meet ∈ wsL_law := wt_2 (List.mem_of_getElem? (i := 5) rfl) rfl
theorem im_yX2_meet : Cond.instanceMethod yX2_meet ∈ wsL_law := wt_2 (List.mem_of_getElem? (i := 7) rfl) rfl
theorem se_yX2_meet : Cond.selects RX2 yX2_meet yX2_meet ∈ wsL_law := wt_s (y := yX2_meet) (n := 10) (List.mem_append_left _ (List.mem_of_getElem? (i := 4) rfl)) rfl
theorem cd_yX2_meet : Cond.code yX2_meet cX2_meet 4 (some .int) ∈ wsL_law := wt_2 (List.mem_of_getElem? (i := 8) rfl) rfl
theorem fl_RX2_124 : Cond.fieldLink RX2 124 "PostHall$Counter" "met" "I" ∈ wsL_law := wt_1 (List.mem_of_getElem? (i := 183) rfl) rfl
theorem ml_RX2_143 : Cond.methodLink RX2 143 yX0_takes ∈ wsL_law := wt_2 (List.mem_of_getElem? (i := 9) rfl) rfl
theorem im_yX0_takes : Cond.instanceMethod yX0_takes ∈ wsL_law := wt_2 (List.mem_of_getElem? (i := 10) rfl) rfl
theorem se_yX0_takes : Cond.selects RX0 yX0_takes yX0_takes ∈ wsL_law := wt_2 (List.mem_of_getElem? (i := 11) rfl) rfl
theorem cd_yX0_takes : Cond.code yX0_takes cX0_takes 2 (some .boolean) ∈ wsL_law := wt_2 (List.mem_of_getElem? (i := 12) rfl) rfl
theorem ml_RX2_146 : Cond.methodLink RX2 146 yX2_work ∈ wsL_law := wt_2 (List.mem_of_getElem? (i := 13) rfl) rfl
theorem im_yX2_work : Cond.instanceMethod yX2_work ∈ wsL_law := wt_2 (List.mem_of_getElem? (i := 15) rfl) rfl
theorem se_yX2_work : Cond.selects RX2 yX2_work yX2_work ∈ wsL_law := wt_s (y := yX2_work) (n := 10) (List.mem_append_left _ (List.mem_of_getElem? (i := 5) rfl)) rfl
theorem ml_RX2_149 : Cond.methodLink RX2 149 yX2_noteFall ∈ wsL_law := wt_2 (List.mem_of_getElem? (i := 43) rfl) rfl
theorem im_yX2_noteFall : Cond.instanceMethod yX2_noteFall ∈ wsL_law := wt_2 (List.mem_of_getElem? (i := 45) rfl) rfl
theorem se_yX2_noteFall : Cond.selects RX2 yX2_noteFall yX2_noteFall ∈ wsL_law := wt_s (y := yX2_noteFall) (n := 10) (List.mem_append_left _ (List.mem_of_getElem? (i := 9) rfl)) rfl
theorem cd_yX2_noteFall : Cond.code yX2_noteFall cX2_noteFall 2 none ∈ wsL_law := wt_2 (List.mem_of_getElem? (i := 46) rfl) rfl
theorem fl_RX2_127 : Cond.fieldLink RX2 127 "PostHall$Counter" "fell" "I" ∈ wsL_law := wt_1 (List.mem_of_getElem? (i := 185) rfl) rfl
theorem fl_RX2_153 : Cond.fieldLink RX2 153 "PostHall$Counter" "at" "I" ∈ wsL_law := wt_1 (List.mem_of_getElem? (i := 165) rfl) rfl
theorem cd_yX2_open : Cond.code yX2_open cX2_open 4 (some .int) ∈ wsL_law := wt_2 (List.mem_of_getElem? (i := 35) rfl) rfl
theorem ml_RX2_187 : Cond.methodLink RX2 187 yX2_failureOf ∈ wsL_law := wt_2 (List.mem_of_getElem? (i := 36) rfl) rfl
theorem st_yX2_failureOf : Cond.static yX2_failureOf ∈ wsL_law := wt_2 (List.mem_of_getElem? (i := 37) rfl) rfl
theorem cd_yX2_failureOf : Cond.code yX2_failureOf cX2_failureOf 1 (some .int) ∈ wsL_law := wt_2 (List.mem_of_getElem? (i := 38) rfl) rfl
theorem cd_yX2_spread : Cond.code yX2_spread cX2_spread 6 (some .int) ∈ wsL_law := wt_2 (List.mem_of_getElem? (i := 42) rfl) rfl
theorem cd_yX2_work : Cond.code yX2_work cX2_work 3 (some .int) ∈ wsL_law := wt_2 (List.mem_of_getElem? (i := 16) rfl) rfl
theorem ml_RX2_156 : Cond.methodLink RX2 156 yX1_weight ∈ wsL_law := wt_2 (List.mem_of_getElem? (i := 17) rfl) rfl
theorem im_yX1_weight : Cond.instanceMethod yX1_weight ∈ wsL_law := wt_2 (List.mem_of_getElem? (i := 18) rfl) rfl
theorem se_yX1_weight : Cond.selects RX1 yX1_weight yX1_weight ∈ wsL_law := wt_2 (List.mem_of_getElem? (i := 19) rfl) rfl
theorem cd_yX1_weight : Cond.code yX1_weight cX1_weight 1 (some .int) ∈ wsL_law := wt_2 (List.mem_of_getElem? (i := 20) rfl) rfl
theorem ml_RX2_160 : Cond.methodLink RX2 160 yX2_mark ∈ wsL_law := wt_2 (List.mem_of_getElem? (i := 21) rfl) rfl
theorem st_yX2_mark : Cond.static yX2_mark ∈ wsL_law := wt_2 (List.mem_of_getElem? (i := 22) rfl) rfl
theorem cd_yX2_mark : Cond.code yX2_mark cX2_mark 2 (some .int) ∈ wsL_law := wt_2 (List.mem_of_getElem? (i := 23) rfl) rfl
theorem fl_RX2_175 : Cond.fieldLink RX2 175 "PostHall$Message" "figures" "Z" ∈ wsL_law := wt_1 (List.mem_of_getElem? (i := 75) rfl) rfl
theorem ml_RX2_172 : Cond.methodLink RX2 172 yX2_markedStamp ∈ wsL_law := wt_2 (List.mem_of_getElem? (i := 24) rfl) rfl
theorem st_yX2_markedStamp : Cond.static yX2_markedStamp ∈ wsL_law := wt_2 (List.mem_of_getElem? (i := 25) rfl) rfl
theorem cd_yX2_markedStamp : Cond.code yX2_markedStamp cX2_markedStamp 2 (some .int) ∈ wsL_law := wt_2 (List.mem_of_getElem? (i := 26) rfl) rfl
theorem fl_RX2_181 : Cond.fieldLink RX2 181 "PostHall$Counter" "wantsBase" "I" ∈ wsL_law := wt_1 (List.mem_of_getElem? (i := 169) rfl) rfl
theorem ml_RX2_178 : Cond.methodLink RX2 178 yX1_fill ∈ wsL_law := wt_2 (List.mem_of_getElem? (i := 27) rfl) rfl
theorem ml_RX2_163 : Cond.methodLink RX2 163 yX2_lay ∈ wsL_law := wt_2 (List.mem_of_getElem? (i := 28) rfl) rfl
theorem im_yX2_lay : Cond.instanceMethod yX2_lay ∈ wsL_law := wt_2 (List.mem_of_getElem? (i := 30) rfl) rfl
theorem se_yX2_lay : Cond.selects RX2 yX2_lay yX2_lay ∈ wsL_law := wt_s (y := yX2_lay) (n := 10) (List.mem_append_left _ (List.mem_of_getElem? (i := 6) rfl)) rfl
theorem cd_yX2_lay : Cond.code yX2_lay cX2_lay 4 (some .int) ∈ wsL_law := wt_2 (List.mem_of_getElem? (i := 31) rfl) rfl
theorem fl_RX2_184 : Cond.fieldLink RX2 184 "PostHall$Counter" "wantsDepth" "I" ∈ wsL_law := wt_1 (List.mem_of_getElem? (i := 171) rfl) rfl
theorem ml_RX2_166 : Cond.methodLink RX2 166 yX2_open ∈ wsL_law := wt_2 (List.mem_of_getElem? (i := 32) rfl) rfl
theorem im_yX2_open : Cond.instanceMethod yX2_open ∈ wsL_law := wt_2 (List.mem_of_getElem? (i := 34) rfl) rfl
theorem se_yX2_open : Cond.selects RX2 yX2_open yX2_open ∈ wsL_law := wt_s (y := yX2_open) (n := 10) (List.mem_append_left _ (List.mem_of_getElem? (i := 7) rfl)) rfl
theorem ml_RX2_169 : Cond.methodLink RX2 169 yX2_spread ∈ wsL_law := wt_2 (List.mem_of_getElem? (i := 39) rfl) rfl
theorem im_yX2_spread : Cond.instanceMethod yX2_spread ∈ wsL_law := wt_2 (List.mem_of_getElem? (i := 41) rfl) rfl
theorem se_yX2_spread : Cond.selects RX2 yX2_spread yX2_spread ∈ wsL_law := wt_s (y := yX2_spread) (n := 10) (List.mem_append_left _ (List.mem_of_getElem? (i := 8) rfl)) rfl
theorem ml_RL_64 : Cond.methodLink RL 64 yX3_send ∈ wsL_law := wt_2 (List.mem_of_getElem? (i := 239) rfl) rfl
theorem im_yX3_send : Cond.instanceMethod yX3_send ∈ wsL_law := wt_3 (List.mem_of_getElem? (i := 0) rfl) rfl
theorem se_yX3_send : Cond.selects RX3 yX3_send yX3_send ∈ wsL_law := wt_3 (List.mem_of_getElem? (i := 1) rfl) rfl
theorem cd_yX3_send : Cond.code yX3_send cX3_send 4 (some .int) ∈ wsL_law := wt_3 (List.mem_of_getElem? (i := 2) rfl) rfl
theorem fl_RX3_158 : Cond.fieldLink RX3 158 "PostHallModel" "sends" "I" ∈ wsL_law := wt_2 (List.mem_of_getElem? (i := 83) rfl) rfl
theorem fl_RX3_148 : Cond.fieldLink RX3 148 "PostHallModel" "meetings" "I" ∈ wsL_law := wt_2 (List.mem_of_getElem? (i := 84) rfl) rfl
theorem fl_RX3_133 : Cond.fieldLink RX3 133 "PostHallModel" "done" "I" ∈ wsL_law := wt_2 (List.mem_of_getElem? (i := 85) rfl) rfl
theorem fl_RX3_145 : Cond.fieldLink RX3 145 "PostHallModel" "lost" "I" ∈ wsL_law := wt_2 (List.mem_of_getElem? (i := 86) rfl) rfl
theorem fl_RX3_136 : Cond.fieldLink RX3 136 "PostHallModel" "failed" "I" ∈ wsL_law := wt_2 (List.mem_of_getElem? (i := 87) rfl) rfl
theorem fl_RX3_139 : Cond.fieldLink RX3 139 "PostHallModel" "first" "I" ∈ wsL_law := wt_2 (List.mem_of_getElem? (i := 88) rfl) rfl
theorem fl_RX3_117 : Cond.fieldLink RX3 117 "PostHallModel" "top" "I" ∈ wsL_law := wt_2 (List.mem_of_getElem? (i := 89) rfl) rfl
theorem ml_RX3_120 : Cond.methodLink RX3 120 yX3_begin ∈ wsL_law := wt_3 (List.mem_of_getElem? (i := 3) rfl) rfl
theorem im_yX3_begin : Cond.instanceMethod yX3_begin ∈ wsL_law := wt_3 (List.mem_of_getElem? (i := 5) rfl) rfl
theorem se_yX3_begin : Cond.selects RX3 yX3_begin yX3_begin ∈ wsL_law := wt_s (y := yX3_begin) (n := 29) (List.mem_append_right _ (List.mem_of_getElem? (i := 1) rfl)) rfl
theorem cd_yX3_begin : Cond.code yX3_begin cX3_begin 3 none ∈ wsL_law := wt_3 (List.mem_of_getElem? (i := 6) rfl) rfl
theorem ml_RX3_161 : Cond.methodLink RX3 161 yX3_step ∈ wsL_law := wt_3 (List.mem_of_getElem? (i := 7) rfl) rfl
theorem im_yX3_step : Cond.instanceMethod yX3_step ∈ wsL_law := wt_3 (List.mem_of_getElem? (i := 9) rfl) rfl
theorem se_yX3_step : Cond.selects RX3 yX3_step yX3_step ∈ wsL_law := wt_s (y := yX3_step) (n := 29) (List.mem_append_right _ (List.mem_of_getElem? (i := 2) rfl)) rfl
theorem cd_yX3_step : Cond.code yX3_step cX3_step 4 (some .int) ∈ wsL_law := wt_3 (List.mem_of_getElem? (i := 10) rfl) rfl
theorem ml_RX3_142 : Cond.methodLink RX3 142 yX3_meeting ∈ wsL_law := wt_3 (List.mem_of_getElem? (i := 11) rfl) rfl
theorem im_yX3_meeting : Cond.instanceMethod yX3_meeting ∈ wsL_law := wt_3 (List.mem_of_getElem? (i := 13) rfl) rfl
theorem se_yX3_meeting : Cond.selects RX3 yX3_meeting yX3_meeting ∈ wsL_law := wt_s (y := yX3_meeting) (n := 29) (List.mem_append_right _ (List.mem_of_getElem? (i := 3) rfl)) rfl
theorem cd_yX3_meeting : Cond.code yX3_meeting cX3_meeting 4 (some .int) ∈ wsL_law := wt_3 (List.mem_of_getElem? (i := 14) rfl) rfl
theorem ml_RX3_151 : Cond.methodLink RX3 151 yX3_works ∈ wsL_law := wt_3 (List.mem_of_getElem? (i := 15) rfl) rfl
theorem im_yX3_works : Cond.instanceMethod yX3_works ∈ wsL_law := wt_3 (List.mem_of_getElem? (i := 17) rfl) rfl
theorem se_yX3_works : Cond.selects RX3 yX3_works yX3_works ∈ wsL_law := wt_s (y := yX3_works) (n := 29) (List.mem_append_right _ (List.mem_of_getElem? (i := 4) rfl)) rfl
theorem cd_yX3_works : Cond.code yX3_works cX3_works 4 (some .int) ∈ wsL_law := wt_3 (List.mem_of_getElem? (i := 18) rfl) rfl
theorem ml_RX3_124 : Cond.methodLink RX3 124 yX3_mark ∈ wsL_law := wt_3 (List.mem_of_getElem? (i := 19) rfl) rfl
theorem im_yX3_mark : Cond.instanceMethod yX3_mark ∈ wsL_law := wt_3 (List.mem_of_getElem? (i := 21) rfl) rfl
theorem se_yX3_mark : Cond.selects RX3 yX3_mark yX3_mark ∈ wsL_law := wt_s (y := yX3_mark) (n := 29) (List.mem_append_right _ (List.mem_of_getElem? (i := 5) rfl)) rfl
theorem cd_yX3_mark : Cond.code yX3_mark cX3_mark 4 (some .int) ∈ wsL_law := wt_3 (List.mem_of_getElem? (i := 22) rfl) rfl
theorem ml_RX3_127 : Cond.methodLink RX3 127 yX3_lay ∈ wsL_law := wt_3 (List.mem_of_getElem? (i := 23) rfl) rfl
theorem im_yX3_lay : Cond.instanceMethod yX3_lay ∈ wsL_law := wt_3 (List.mem_of_getElem? (i := 25) rfl) rfl
theorem se_yX3_lay : Cond.selects RX3 yX3_lay yX3_lay ∈ wsL_law := wt_s (y := yX3_lay) (n := 29) (List.mem_append_right _ (List.mem_of_getElem? (i := 6) rfl)) rfl
theorem cd_yX3_lay : Cond.code yX3_lay cX3_lay 4 (some .int) ∈ wsL_law := wt_3 (List.mem_of_getElem? (i := 26) rfl) rfl
theorem ml_RX3_130 : Cond.methodLink RX3 130 yX3_spreads ∈ wsL_law := wt_3 (List.mem_of_getElem? (i := 27) rfl) rfl
theorem im_yX3_spreads : Cond.instanceMethod yX3_spreads ∈ wsL_law := wt_3 (List.mem_of_getElem? (i := 29) rfl) rfl
theorem se_yX3_spreads : Cond.selects RX3 yX3_spreads yX3_spreads ∈ wsL_law := wt_s (y := yX3_spreads) (n := 29) (List.mem_append_right _ (List.mem_of_getElem? (i := 7) rfl)) rfl
theorem cd_yX3_spreads : Cond.code yX3_spreads cX3_spreads 5 (some .boolean) ∈ wsL_law := wt_3 (List.mem_of_getElem? (i := 30) rfl) rfl
theorem ml_RX3_155 : Cond.methodLink RX3 155 yX3_over ∈ wsL_law := wt_3 (List.mem_of_getElem? (i := 31) rfl) rfl
theorem im_yX3_over : Cond.instanceMethod yX3_over ∈ wsL_law := wt_3 (List.mem_of_getElem? (i := 33) rfl) rfl
theorem se_yX3_over : Cond.selects RX3 yX3_over yX3_over ∈ wsL_law := wt_s (y := yX3_over) (n := 29) (List.mem_append_right _ (List.mem_of_getElem? (i := 8) rfl)) rfl
theorem cd_yX3_over : Cond.code yX3_over cX3_over 4 (some .int) ∈ wsL_law := wt_3 (List.mem_of_getElem? (i := 34) rfl) rfl
theorem ml_RX3_165 : Cond.methodLink RX3 165 yX3_back ∈ wsL_law := wt_3 (List.mem_of_getElem? (i := 35) rfl) rfl
theorem im_yX3_back : Cond.instanceMethod yX3_back ∈ wsL_law := wt_3 (List.mem_of_getElem? (i := 37) rfl) rfl
theorem se_yX3_back : Cond.selects RX3 yX3_back yX3_back ∈ wsL_law := wt_s (y := yX3_back) (n := 29) (List.mem_append_right _ (List.mem_of_getElem? (i := 9) rfl)) rfl
theorem cd_yX3_back : Cond.code yX3_back cX3_back 3 (some .int) ∈ wsL_law := wt_3 (List.mem_of_getElem? (i := 38) rfl) rfl
theorem ml_RL_65 : Cond.methodLink RL 65 yX2_told ∈ wsL_law := wt_2 (List.mem_of_getElem? (i := 47) rfl) rfl
theorem im_yX2_told : Cond.instanceMethod yX2_told ∈ wsL_law := wt_2 (List.mem_of_getElem? (i := 48) rfl) rfl
theorem se_yX2_told : Cond.selects RX2 yX2_told yX2_told ∈ wsL_law := wt_2 (List.mem_of_getElem? (i := 49) rfl) rfl
theorem cd_yX2_told : Cond.code yX2_told cX2_told 2 (some .int) ∈ wsL_law := wt_2 (List.mem_of_getElem? (i := 50) rfl) rfl
theorem ml_RL_69 : Cond.methodLink RL 69 yX3_told ∈ wsL_law := wt_3 (List.mem_of_getElem? (i := 39) rfl) rfl
theorem im_yX3_told : Cond.instanceMethod yX3_told ∈ wsL_law := wt_3 (List.mem_of_getElem? (i := 40) rfl) rfl
theorem se_yX3_told : Cond.selects RX3 yX3_told yX3_told ∈ wsL_law := wt_3 (List.mem_of_getElem? (i := 41) rfl) rfl
theorem cd_yX3_told : Cond.code yX3_told cX3_told 2 (some .int) ∈ wsL_law := wt_3 (List.mem_of_getElem? (i := 42) rfl) rfl
theorem ml_RL_70 : Cond.methodLink RL 70 yX2_of ∈ wsL_law := wt_2 (List.mem_of_getElem? (i := 51) rfl) rfl
theorem im_yX2_of : Cond.instanceMethod yX2_of ∈ wsL_law := wt_2 (List.mem_of_getElem? (i := 52) rfl) rfl
theorem se_yX2_of : Cond.selects RX2 yX2_of yX2_of ∈ wsL_law := wt_2 (List.mem_of_getElem? (i := 53) rfl) rfl
theorem cd_yX2_of : Cond.code yX2_of cX2_of 4 (some .int) ∈ wsL_law := wt_2 (List.mem_of_getElem? (i := 54) rfl) rfl
theorem ml_RL_73 : Cond.methodLink RL 73 yX3_of ∈ wsL_law := wt_3 (List.mem_of_getElem? (i := 43) rfl) rfl
theorem im_yX3_of : Cond.instanceMethod yX3_of ∈ wsL_law := wt_3 (List.mem_of_getElem? (i := 44) rfl) rfl
theorem se_yX3_of : Cond.selects RX3 yX3_of yX3_of ∈ wsL_law := wt_3 (List.mem_of_getElem? (i := 45) rfl) rfl
theorem cd_yX3_of : Cond.code yX3_of cX3_of 3 (some .int) ∈ wsL_law := wt_3 (List.mem_of_getElem? (i := 46) rfl) rfl
theorem ml_RL_74 : Cond.methodLink RL 74 yX2_count ∈ wsL_law := wt_2 (List.mem_of_getElem? (i := 55) rfl) rfl
theorem im_yX2_count : Cond.instanceMethod yX2_count ∈ wsL_law := wt_2 (List.mem_of_getElem? (i := 56) rfl) rfl
theorem se_yX2_count : Cond.selects RX2 yX2_count yX2_count ∈ wsL_law := wt_2 (List.mem_of_getElem? (i := 57) rfl) rfl
theorem cd_yX2_count : Cond.code yX2_count cX2_count 2 (some .int) ∈ wsL_law := wt_2 (List.mem_of_getElem? (i := 58) rfl) rfl
theorem ml_RL_77 : Cond.methodLink RL 77 yX3_count ∈ wsL_law := wt_3 (List.mem_of_getElem? (i := 47) rfl) rfl
theorem im_yX3_count : Cond.instanceMethod yX3_count ∈ wsL_law := wt_3 (List.mem_of_getElem? (i := 48) rfl) rfl
theorem se_yX3_count : Cond.selects RX3 yX3_count yX3_count ∈ wsL_law := wt_3 (List.mem_of_getElem? (i := 49) rfl) rfl
theorem cd_yX3_count : Cond.code yX3_count cX3_count 4 (some .int) ∈ wsL_law := wt_3 (List.mem_of_getElem? (i := 50) rfl) rfl
theorem uw_X0 : u_ws RX0 TX0 12 = [.laysFinal RX0 "PostHall$Counter" "at" "I", .lays RX0 "PostHall$Counter" "asksBase" "I", .lays RX0 "PostHall$Counter" "asksDepth" "I", .lays RX0 "PostHall$Counter" "wantsBase" "I", .lays RX0 "PostHall$Counter" "wantsDepth" "I", .lays RX0 "PostHall$Counter" "job" "I", .lays RX0 "PostHall$Counter" "number" "I", .lays RX0 "PostHall$Counter" "own" "I", .lays RX0 "PostHall$Counter" "patient" "Z", .lays RX0 "PostHall$Counter" "shut" "Z", .lays RX0 "PostHall$Counter" "met" "I", .lays RX0 "PostHall$Counter" "fell" "I"] := by decide +kernel
theorem inlX0 : ∀ w ∈ u_ws RX0 TX0 12, w ∈ wsL_law := by
  rw [uw_X0]
  exact List.forall_mem_cons.mpr ⟨wt_1 (List.mem_of_getElem? (i := 186) rfl) rfl, List.forall_mem_cons.mpr ⟨wt_1 (List.mem_of_getElem? (i := 188) rfl) rfl, List.forall_mem_cons.mpr ⟨wt_1 (List.mem_of_getElem? (i := 190) rfl) rfl, List.forall_mem_cons.mpr ⟨wt_1 (List.mem_of_getElem? (i := 192) rfl) rfl, List.forall_mem_cons.mpr ⟨wt_1 (List.mem_of_getElem? (i := 194) rfl) rfl, List.forall_mem_cons.mpr ⟨wt_1 (List.mem_of_getElem? (i := 196) rfl) rfl, List.forall_mem_cons.mpr ⟨wt_1 (List.mem_of_getElem? (i := 198) rfl) rfl, List.forall_mem_cons.mpr ⟨wt_1 (List.mem_of_getElem? (i := 200) rfl) rfl, List.forall_mem_cons.mpr ⟨wt_1 (List.mem_of_getElem? (i := 202) rfl) rfl, List.forall_mem_cons.mpr ⟨wt_1 (List.mem_of_getElem? (i := 204) rfl) rfl, List.forall_mem_cons.mpr ⟨wt_1 (List.mem_of_getElem? (i := 206) rfl) rfl, List.forall_mem_cons.mpr ⟨wt_1 (List.mem_of_getElem? (i := 208) rfl) rfl, fun _ h => absurd h List.not_mem_nil⟩⟩⟩⟩⟩⟩⟩⟩⟩⟩⟩⟩
theorem uw_X1 : u_ws RX1 TX1 6 = [.laysFinal RX1 "PostHall$Message" "number" "I", .laysFinal RX1 "PostHall$Message" "base" "I", .laysFinal RX1 "PostHall$Message" "depth" "I", .laysFinal RX1 "PostHall$Message" "figures" "Z", .laysFinal RX1 "PostHall$Message" "places" "[I", .lays RX1 "PostHall$Message" "stamp" "I"] := by decide +kernel
theorem inlX1 : ∀ w ∈ u_ws RX1 TX1 6, w ∈ wsL_law := by
  rw [uw_X1]
  exact List.forall_mem_cons.mpr ⟨wt_1 (List.mem_of_getElem? (i := 79) rfl) rfl, List.forall_mem_cons.mpr ⟨wt_1 (List.mem_of_getElem? (i := 81) rfl) rfl, List.forall_mem_cons.mpr ⟨wt_1 (List.mem_of_getElem? (i := 83) rfl) rfl, List.forall_mem_cons.mpr ⟨wt_1 (List.mem_of_getElem? (i := 85) rfl) rfl, List.forall_mem_cons.mpr ⟨wt_1 (List.mem_of_getElem? (i := 87) rfl) rfl, List.forall_mem_cons.mpr ⟨wt_1 (List.mem_of_getElem? (i := 89) rfl) rfl, fun _ h => absurd h List.not_mem_nil⟩⟩⟩⟩⟩⟩
theorem uw_X2 : u_ws RX2 TX2 10 = [.laysFinal RX2 "PostHall" "messages" "[LPostHall$Message;", .laysFinal RX2 "PostHall" "counters" "[LPostHall$Counter;", .lays RX2 "PostHall" "messageCount" "I", .lays RX2 "PostHall" "setCount" "I", .lays RX2 "PostHall" "sendCount" "I", .lays RX2 "PostHall" "meetings" "I", .lays RX2 "PostHall" "done" "I", .lays RX2 "PostHall" "lost" "I", .lays RX2 "PostHall" "fallen" "I", .lays RX2 "PostHall" "firstFallen" "I"] := by decide +kernel
theorem inlX2 : ∀ w ∈ u_ws RX2 TX2 10, w ∈ wsL_law := by
  rw [uw_X2]
  exact List.forall_mem_cons.mpr ⟨wt_1 (List.mem_of_getElem? (i := 27) rfl) rfl, List.forall_mem_cons.mpr ⟨wt_1 (List.mem_of_getElem? (i := 29) rfl) rfl, List.forall_mem_cons.mpr ⟨wt_1 (List.mem_of_getElem? (i := 31) rfl) rfl, List.forall_mem_cons.mpr ⟨wt_1 (List.mem_of_getElem? (i := 33) rfl) rfl, List.forall_mem_cons.mpr ⟨wt_1 (List.mem_of_getElem? (i := 35) rfl) rfl, List.forall_mem_cons.mpr ⟨wt_1 (List.mem_of_getElem? (i := 37) rfl) rfl, List.forall_mem_cons.mpr ⟨wt_1 (List.mem_of_getElem? (i := 39) rfl) rfl, List.forall_mem_cons.mpr ⟨wt_1 (List.mem_of_getElem? (i := 41) rfl) rfl, List.forall_mem_cons.mpr ⟨wt_1 (List.mem_of_getElem? (i := 43) rfl) rfl, List.forall_mem_cons.mpr ⟨wt_1 (List.mem_of_getElem? (i := 45) rfl) rfl, fun _ h => absurd h List.not_mem_nil⟩⟩⟩⟩⟩⟩⟩⟩⟩⟩
theorem uw_X3 : u_ws RX3 TX3 29 = [.lays RX3 "PostHallModel" "messages" "I", .laysFinal RX3 "PostHallModel" "base" "[I", .laysFinal RX3 "PostHallModel" "depth" "[I", .laysFinal RX3 "PostHallModel" "stamp" "[I", .laysFinal RX3 "PostHallModel" "size" "[I", .laysFinal RX3 "PostHallModel" "item" "[I", .laysFinal RX3 "PostHallModel" "isSet" "[Z", .laysFinal RX3 "PostHallModel" "isShut" "[Z", .laysFinal RX3 "PostHallModel" "isPatient" "[Z", .laysFinal RX3 "PostHallModel" "asksBase" "[I", .laysFinal RX3 "PostHallModel" "asksDepth" "[I", .laysFinal RX3 "PostHallModel" "wantsBase" "[I", .laysFinal RX3 "PostHallModel" "wantsDepth" "[I", .laysFinal RX3 "PostHallModel" "job" "[I", .laysFinal RX3 "PostHallModel" "number" "[I", .laysFinal RX3 "PostHallModel" "own" "[I", .laysFinal RX3 "PostHallModel" "met" "[I", .laysFinal RX3 "PostHallModel" "fell" "[I", .lays RX3 "PostHallModel" "sends" "I", .lays RX3 "PostHallModel" "meetings" "I", .lays RX3 "PostHallModel" "done" "I", .lays RX3 "PostHallModel" "lost" "I", .lays RX3 "PostHallModel" "failed" "I", .lays RX3 "PostHallModel" "first" "I", .lays RX3 "PostHallModel" "top" "I", .laysFinal RX3 "PostHallModel" "message" "[I", .laysFinal RX3 "PostHallModel" "next" "[I", .laysFinal RX3 "PostHallModel" "meets" "[I", .laysFinal RX3 "PostHallModel" "place" "[I"] := by decide +kernel
theorem inlX3 : ∀ w ∈ u_ws RX3 TX3 29, w ∈ wsL_law := by
  rw [uw_X3]
  exact List.forall_mem_cons.mpr ⟨wt_2 (List.mem_of_getElem? (i := 94) rfl) rfl, List.forall_mem_cons.mpr ⟨wt_2 (List.mem_of_getElem? (i := 96) rfl) rfl, List.forall_mem_cons.mpr ⟨wt_2 (List.mem_of_getElem? (i := 98) rfl) rfl, List.forall_mem_cons.mpr ⟨wt_2 (List.mem_of_getElem? (i := 100) rfl) rfl, List.forall_mem_cons.mpr ⟨wt_2 (List.mem_of_getElem? (i := 102) rfl) rfl, List.forall_mem_cons.mpr ⟨wt_2 (List.mem_of_getElem? (i := 104) rfl) rfl, List.forall_mem_cons.mpr ⟨wt_2 (List.mem_of_getElem? (i := 106) rfl) rfl, List.forall_mem_cons.mpr ⟨wt_2 (List.mem_of_getElem? (i := 108) rfl) rfl, List.forall_mem_cons.mpr ⟨wt_2 (List.mem_of_getElem? (i := 110) rfl) rfl, List.forall_mem_cons.mpr ⟨wt_2 (List.mem_of_getElem? (i := 112) rfl) rfl, List.forall_mem_cons.mpr ⟨wt_2 (List.mem_of_getElem? (i := 114) rfl) rfl, List.forall_mem_cons.mpr ⟨wt_2 (List.mem_of_getElem? (i := 116) rfl) rfl, List.forall_mem_cons.mpr ⟨wt_2 (List.mem_of_getElem? (i := 118) rfl) rfl, List.forall_mem_cons.mpr ⟨wt_2 (List.mem_of_getElem? (i := 120) rfl) rfl, List.forall_mem_cons.mpr ⟨wt_2 (List.mem_of_getElem? (i := 122) rfl) rfl, List.forall_mem_cons.mpr ⟨wt_2 (List.mem_of_getElem? (i := 124) rfl) rfl, List.forall_mem_cons.mpr ⟨wt_2 (List.mem_of_getElem? (i := 126) rfl) rfl, List.forall_mem_cons.mpr ⟨wt_2 (List.mem_of_getElem? (i := 128) rfl) rfl, List.forall_mem_cons.mpr ⟨wt_2 (List.mem_of_getElem? (i := 130) rfl) rfl, List.forall_mem_cons.mpr ⟨wt_2 (List.mem_of_getElem? (i := 132) rfl) rfl, List.forall_mem_cons.mpr ⟨wt_2 (List.mem_of_getElem? (i := 134) rfl) rfl, List.forall_mem_cons.mpr ⟨wt_2 (List.mem_of_getElem? (i := 136) rfl) rfl, List.forall_mem_cons.mpr ⟨wt_2 (List.mem_of_getElem? (i := 138) rfl) rfl, List.forall_mem_cons.mpr ⟨wt_2 (List.mem_of_getElem? (i := 140) rfl) rfl, List.forall_mem_cons.mpr ⟨wt_2 (List.mem_of_getElem? (i := 142) rfl) rfl, List.forall_mem_cons.mpr ⟨wt_2 (List.mem_of_getElem? (i := 144) rfl) rfl, List.forall_mem_cons.mpr ⟨wt_2 (List.mem_of_getElem? (i := 146) rfl) rfl, List.forall_mem_cons.mpr ⟨wt_2 (List.mem_of_getElem? (i := 148) rfl) rfl, List.forall_mem_cons.mpr ⟨wt_2 (List.mem_of_getElem? (i := 150) rfl) rfl, fun _ h => absurd h List.not_mem_nil⟩⟩⟩⟩⟩⟩⟩⟩⟩⟩⟩⟩⟩⟩⟩⟩⟩⟩⟩⟩⟩⟩⟩⟩⟩⟩⟩⟩⟩
end
section
/-! The world as a partial map from addresses to cells; contracts over it. -/
abbrev gm : Type := Nat → Option va_E
abbrev gE : Type := va_G × (Nat → ClassId)
def gu (g : gm) (a : Nat) (e : va_E) : gm := fun b => if b = a then some e else g b
theorem gu_s (g : gm) (a : Nat) (e : va_E) : gu g a e a = some e := by simp [gu]
theorem gu_n (g : gm) {a b : Nat} (e : va_E) (h : b ≠ a) : gu g a e b = g b := by simp [gu, h]
def fr (g : gm) (sz : Nat) : Nat → Prop := fun q => (g q).isSome = true ∨ sz ≤ q
abbrev nw1 : Cond := .methodLinkNest "PostHall$Message" 21 yX2_isOfFigures "PostHall"
abbrev nw2 : Cond := .methodLinkNest "PostHall$Message" 37 yX2_passesFor "PostHall"
abbrev nw3 : Cond := .methodLinkNest "PostHall$Counter" 55 yX2_isOfFigures "PostHall"
abbrev tys4 (E : gE) : List (ClassId × FieldType) := [(E.2 0, .int), (E.2 1, .boolean), (E.2 2, .object RX1), (E.2 3, .object RX0)]
def KC (E : gE) (U : State) : Prop := va_K E.1 vwCl (tys4 E) U ∧ va_Nw nw1 U ∧ va_Nw nw2 U ∧ va_Nw nw3 U ∧ va_AO RX1 U ∧ va_AO RX0 U
theorem KC.warm {E : gE} {s U : State} (hW : s.WarmedH U.vm) (h : KC E s) : KC E U :=
  ⟨va_K.moved hW.alike h.1, va_Nw.warmM hW h.2.1, va_Nw.warmM hW h.2.2.1, va_Nw.warmM hW h.2.2.2.1, va_AO.moved hW.alike h.2.2.2.2.1, va_AO.moved hW.alike h.2.2.2.2.2⟩
theorem KC.same {E : gE} {s U : State} (e : s.vm = U.vm) (h : KC E s) : KC E U :=
  ⟨va_K.moved (by rw [e]; exact Vm.Alike.refl _) h.1, va_Nw.same rfl e h.2.1, va_Nw.same rfl e h.2.2.1, va_Nw.same rfl e h.2.2.2.1, va_AO.moved (by rw [e]; exact Vm.Alike.refl _) h.2.2.2.2.1, va_AO.moved (by rw [e]; exact Vm.Alike.refl _) h.2.2.2.2.2⟩
/-- the world g in the heap H: each cell as g says, each in A; since H0 nothing outside A has changed -/
def PW (E : gE) (A : Nat → Prop) (H0 H : Heap) (locs : List Loc) (g : gm) : Prop := (∀ a e, g a = some e → va_at E.1 vwCl (a, e) H ∧ A a) ∧ va_S A H0 H locs ∧ ∀ q, H0.size ≤ q → A q
def QC (E : gE) (g : gm) (sz : Nat) (post : Option Value → gm → Prop) : Array Value → State → Outcome → State → Prop := fun _ st oc t => (∃ (v : Option Value) (g' : gm), oc = .returned v ∧ post v g' ∧ ∀ a e, g' a = some e → va_at E.1 vwCl (a, e) t.heap ∧ fr g sz a) ∧ va_F (fr g sz) st t
def PC (E : gE) (g : gm) (sz : Nat) : State → Prop := fun U => U.heap.size = sz ∧ (∀ a e, g a = some e → va_at E.1 vwCl (a, e) U.heap) ∧ KC E U
/-- a method's contract over the world -/
def CM (l : Launch) (y : MethodName) (cc : ByteArray) (n : Nat) (ret : Option FieldType) (rm : Room) (E : gE) (av : List Value) (g : gm) (post : Option Value → gm → Prop) : Prop :=
  ∀ sz : Nat, Met l y (.code y cc n ret :: wsL_law) rm (va_Pc av (PC E g sz)) (QC E g sz post) rm.cells rm.slots (fr g sz)
/-- what a method's body stands on -/
def MX (p : Program) (s : State) (m : MethodId) (meth : Method) (c : Code) (args : Array Value) (y : MethodName) (cc : ByteArray) (n : Nat) (ret : Option FieldType) : Prop :=
  p.tables.exec = Jvm.exec ∧ c.code = cc ∧ meth.sig.returnType = ret ∧ c.maxLocals = n ∧ s.vm.findClass y.cls = some m.cls ∧ (∀ w ∈ wsL_law, w.before args s = true) ∧ meth.locks = false ∧ meth.name = y.name
theorem CM.of {l : Launch} {y : MethodName} {cc : ByteArray} {n : Nat} {ret : Option FieldType} {rm : Room} {E : gE} {av : List Value} {g : gm} {post : Option Value → gm → Prop} (hy : plainName y.cls = true) (hn : (lg_sl av).length ≤ n)
    (body : ∀ (p : Program) (e : Env) (s : State) (m : MethodId) (below : List Frame) (meth : Method) (c : Code) (ls : Array Slot), MX p s m meth c av.toArray y cc n ret → KC E s → PW E (fr g s.heap.size) s.heap s.heap [] g → lv_has ls n (lv_args 0 av) →
      W p l e rm s m av.toArray below meth c s.heap [] 0 0 (MQ below (QC E g s.heap.size post) av.toArray s rm.cells rm.slots (fr g s.heap.size)) (F0 m 0 ls [])) : CM l y cc n ret rm E av g post := by
  intro sz
  refine Met.ofW (cc := cc) (maxL := n) (ret := ret) hy rfl ?_
  intro p e s m args below meth c s₁ B hml hv
  obtain ⟨rfl, hsz, hP, hK⟩ := hv
  subst hsz
  have hts := atoms_spec (ws := .code y cc n ret :: wsL_law) B.pre
  rw [lg_entry_eq]
  exact body p e s m below meth c _ ⟨B.exec, B.bytes, B.returns, hml, findClass_of_methodNamed B.named, fun w hw => hts w (List.mem_cons_of_mem _ hw), B.notSynchronized, (name_of_methodNamed B.named B.method).1⟩ hK ⟨fun a e h => ⟨hP a e h, Or.inl (by rw [h]; rfl)⟩, va_S.rf, fun q h => Or.inr h⟩ (lv_entry av hn)
theorem PW.lt {E : gE} {A : Nat → Prop} {H0 H : Heap} {locs : List Loc} {g : gm} (h : PW E A H0 H locs g) {a : Nat} {e : va_E} (hg : g a = some e) : a < H.size := (h.1 a e hg).1.lt
theorem PW.one {E : gE} {A : Nat → Prop} {H0 H : Heap} {locs : List Loc} {g : gm} (h : PW E A H0 H locs g) {a : Nat} {e : va_E} (hg : g a = some e) : va_P E.1 vwCl [(a, e)] H := fun k q hq => by
  match k, hq with
  | 0, hq => cases hq; exact (h.1 a e hg).1
  | k + 1, hq => simp at hq
theorem PW.list {E : gE} {A : Nat → Prop} {H0 H : Heap} {locs : List Loc} {g : gm} (h : PW E A H0 H locs g) : ∃ ws : va_W, va_P E.1 vwCl ws H ∧ va_D A ws ∧ (∀ a e, g a = some e → ∃ k : Nat, ws[k]? = some (a, e)) ∧ ∀ (k : Nat) (q : Nat × va_E), ws[k]? = some q → g q.1 = some q.2 := by
  have key : ∀ n : Nat, ∃ ws : va_W, va_D A ws ∧ (∀ a e, a < n → g a = some e → ∃ k : Nat, ws[k]? = some (a, e)) ∧ ∀ (k : Nat) (q : Nat × va_E), ws[k]? = some q → g q.1 = some q.2 ∧ q.1 < n := by
    intro n
    induction n with
    | zero => exact ⟨[], ⟨fun i j p q hp => by simp at hp, fun k q hq => by simp at hq⟩, fun a e h => absurd h (Nat.not_lt_zero _), fun k q hq => by simp at hq⟩
    | succ n ih =>
      obtain ⟨ws, h1, h2, h3⟩ := ih
      cases hg : g n with
      | none =>
        refine ⟨ws, h1, fun a e ha hge => ?_, fun k q hq => ⟨(h3 k q hq).1, Nat.lt_succ_of_lt (h3 k q hq).2⟩⟩
        rcases Nat.lt_succ_iff_lt_or_eq.mp ha with ha | ha
        · exact h2 a e ha hge
        · subst ha; rw [hg] at hge; cases hge
      | some e0 =>
        refine ⟨ws ++ [(n, e0)], va_D.app h1 ⟨fun i j p q hp hq _ => ?_, fun k q hq => ?_⟩ (fun i j p q hp hq hpq => ?_), fun a e ha hge => ?_, fun k q hq => ?_⟩
        · have hi : i < 1 := (List.getElem?_eq_some_iff.mp hp).1
          have hj : j < 1 := (List.getElem?_eq_some_iff.mp hq).1
          omega
        · have hi : k < 1 := (List.getElem?_eq_some_iff.mp hq).1
          rw [show k = 0 by omega] at hq
          cases hq
          exact (h.1 n e0 hg).2
        · have hj : j < 1 := (List.getElem?_eq_some_iff.mp hq).1
          rw [show j = 0 by omega] at hq
          cases hq
          have := (h3 i p hp).2
          simp at hpq
          omega
        · rcases Nat.lt_succ_iff_lt_or_eq.mp ha with ha | ha
          · obtain ⟨k, hk⟩ := h2 a e ha hge
            exact ⟨k, by rw [List.getElem?_append_left (List.getElem?_eq_some_iff.mp hk).1]; exact hk⟩
          · subst ha
            rw [hg] at hge
            cases hge
            exact ⟨ws.length, by rw [List.getElem?_append_right (Nat.le_refl _), Nat.sub_self]; rfl⟩
        · rcases List.mem_append.mp (List.mem_of_getElem? hq) with hm | hm
          · obtain ⟨i, hi⟩ := List.getElem?_of_mem hm
            exact ⟨(h3 i q hi).1, Nat.lt_succ_of_lt (h3 i q hi).2⟩
          · rw [List.mem_singleton.mp hm]
            exact ⟨hg, Nat.lt_succ_self _⟩
  obtain ⟨ws, h1, h2, h3⟩ := key H.size
  exact ⟨ws, fun k q hq => (h.1 q.1 q.2 (h3 k q hq).1).1, h1, fun a e hge => h2 a e (h.lt hge) hge, fun k q hq => (h3 k q hq).1⟩
theorem PW.back {E : gE} {A : Nat → Prop} {H0 H H1 : Heap} {locs locs1 : List Loc} {g : gm} (h : PW E A H0 H locs g) {ws : va_W} (hw : ∀ a e, g a = some e → ∃ k : Nat, ws[k]? = some (a, e)) {k a : Nat} {e e1 : va_E} (hk : ws[k]? = some (a, e)) (hg : g a = some e) (hP : va_P E.1 vwCl (ws.set k (a, e1)) H1) (hS : va_S A H0 H1 locs1) : PW E A H0 H1 locs1 (gu g a e1) := by
  refine ⟨fun b e2 hb => ?_, hS, h.2.2⟩
  by_cases hba : b = a
  · subst hba
    rw [gu_s] at hb
    cases hb
    exact ⟨hP k _ (List.getElem?_set_self (List.getElem?_eq_some_iff.mp hk).1), (h.1 b e hg).2⟩
  · rw [gu_n _ _ hba] at hb
    obtain ⟨j, hj⟩ := hw b e2 hb
    have hjk : k ≠ j := fun q => by subst q; rw [hk] at hj; cases hj; exact hba rfl
    exact ⟨hP j _ (by rw [List.getElem?_set_ne hjk]; exact hj), (h.1 b e2 hb).2⟩
theorem PW.push {E : gE} {A : Nat → Prop} {H0 H H1 : Heap} {locs : List Loc} {g : gm} (h : PW E A H0 H locs g) {ws : va_W} (hw : ∀ a e, g a = some e → ∃ k : Nat, ws[k]? = some (a, e)) {q : Nat} {e : va_E} (hP : va_P E.1 vwCl (ws ++ [(q, e)]) H1) (hD : va_D A (ws ++ [(q, e)])) (hS : va_S A H0 H1 locs) : g q = none ∧ PW E A H0 H1 locs (gu g q e) := by
  have hlast : (ws ++ [(q, e)])[ws.length]? = some (q, e) := by rw [List.getElem?_append_right (Nat.le_refl _), Nat.sub_self]; rfl
  have hold : ∀ (b : Nat) (e2 : va_E), g b = some e2 → ∃ k : Nat, k < ws.length ∧ (ws ++ [(q, e)])[k]? = some (b, e2) := fun b e2 hb => by
    obtain ⟨k, hk⟩ := hw b e2 hb
    have hl := (List.getElem?_eq_some_iff.mp hk).1
    exact ⟨k, hl, by rw [List.getElem?_append_left hl]; exact hk⟩
  have hn : g q = none := by
    cases hg : g q with
    | none => rfl
    | some e2 =>
      obtain ⟨k, hl, hk⟩ := hold q e2 hg
      have := hD.1 _ _ _ _ hk hlast rfl
      omega
  refine ⟨hn, fun b e2 hb => ?_, hS, h.2.2⟩
  by_cases hba : b = q
  · subst hba
    rw [gu_s] at hb
    cases hb
    exact ⟨hP _ _ hlast, hD.2 _ _ hlast⟩
  · rw [gu_n _ _ hba] at hb
    obtain ⟨k, hl, hk⟩ := hold b e2 hb
    exact ⟨hP k _ hk, (h.1 b e2 hb).2⟩
section GR
variable {p : Program} {l : Launch} {e : Env} {R : Room} {s : State} {m : MethodId} {args : Array Value} {below : List Frame} {meth : Method} {c : Code} {H : Heap} {locs : List Loc} {cells slots : Nat} {Q : State → Prop}
variable {cc : ByteArray} {pc : Nat} {ls : Array Slot} {rest : List Value} {E : gE} {A : Nat → Prop} {a : Nat} {H0 : Heap} {g : gm}
theorem g_get (hexec : p.tables.exec = Jvm.exec) (hb : c.code = cc) {own C : String} {T : u_T} {N ci index : Nat} (hts : ∀ w ∈ wsL_law, w.before args s = true) (hin : ∀ w ∈ u_ws C T N, w ∈ wsL_law) (hc : vwCl[ci]? = some (C, T, N)) (hown : s.vm.findClass own = some m.cls) (hK : KC E s) (hW : PW E A H0 H locs g) {fs : List Value} (he : g a = some (.inr (ci, fs))) (k : Nat) (hk : k < N) (hlink : Cond.fieldLink own index (T k).1 (T k).2.1 (T k).2.2.1 ∈ wsL_law) {v : Value} (hv : fs[k]? = some v) (hdg : decode cc pc = .ok (.getfield index, 3))
    (kk : W p l e R s m args below meth c H locs cells slots Q (F0 m (pc + 3) ls (v :: rest))) : W p l e R s m args below meth c H locs cells slots Q (F0 m pc ls (.ref a :: rest)) :=
  va_get hexec hb hts hin hown hK.1 (hW.one he) 0 rfl hc k hk (hts _ hlink) (fun _ h => h) hv hdg kk
theorem g_put (hexec : p.tables.exec = Jvm.exec) (hb : c.code = cc) {own C : String} {T : u_T} {N ci index : Nat} (hts : ∀ w ∈ wsL_law, w.before args s = true) (hin : ∀ w ∈ u_ws C T N, w ∈ wsL_law) (hc : vwCl[ci]? = some (C, T, N)) (ty0 : Nat → FieldType) (hty : ∀ k, k < N → parseFieldDescriptor (T k).2.2.1 = some (ty0 k)) (hnm : ∀ a, a < N → ∀ b, b < N → a ≠ b → (T a).2.1 ≠ (T b).2.1) (hown : s.vm.findClass own = some m.cls) (hK : KC E s) (hW : PW E A H0 H locs g) {fs : List Value} (he : g a = some (.inr (ci, fs))) (k : Nat) (hk : k < N) (hlink : Cond.fieldLink own index (T k).1 (T k).2.1 (T k).2.2.1 ∈ wsL_law) (hfin : (T k).2.2.2 = false) {v : Value} (hn : narrow (ty0 k) v = v) (hfit : fits (ty0 k) v = true) (hl : k < fs.length) (hdg : decode cc pc = .ok (.putfield index, 3))
    (kk : ∀ (H1 : Heap) (locs1 : List Loc), PW E A H0 H1 locs1 (gu g a (.inr (ci, fs.set k v))) → W p l e R s m args below meth c H1 locs1 cells slots Q (F0 m (pc + 3) ls rest)) : W p l e R s m args below meth c H locs cells slots Q (F0 m pc ls (v :: .ref a :: rest)) := by
  obtain ⟨ws, hP, hD, hw, -⟩ := hW.list
  obtain ⟨q0, hq0⟩ := hw a _ he
  exact va_put hexec hb hts hin ty0 hty hnm hown hK.1 hP hD hW.2.1 q0 hq0 hc k hk (hts _ hlink) (fun _ h => h) hfin (hty k hk) hn hfit hl hdg (fun H1 locs1 hP1 _ hS1 => kk H1 locs1 (hW.back hw hq0 he hP1 hS1))
theorem g_putF (hexec : p.tables.exec = Jvm.exec) (hb : c.code = cc) {own C : String} {T : u_T} {N ci index : Nat} (hts : ∀ w ∈ wsL_law, w.before args s = true) (hin : ∀ w ∈ u_ws C T N, w ∈ wsL_law) (hc : vwCl[ci]? = some (C, T, N)) (ty0 : Nat → FieldType) (hty : ∀ k, k < N → parseFieldDescriptor (T k).2.2.1 = some (ty0 k)) (hnm : ∀ a, a < N → ∀ b, b < N → a ≠ b → (T a).2.1 ≠ (T b).2.1) (hown : s.vm.findClass own = some m.cls) (hK : KC E s) (hW : PW E A H0 H locs g) {fs : List Value} (he : g a = some (.inr (ci, fs))) (k : Nat) (hk : k < N) (hlink : Cond.fieldLink own index (T k).1 (T k).2.1 (T k).2.2.1 ∈ wsL_law) (hfin : (T k).2.2.2 = true) (hin2 : meth.name = "<init>") (hdecl : (T k).1 = own) {v : Value} (hn : narrow (ty0 k) v = v) (hfit : fits (ty0 k) v = true) (hl : k < fs.length) (hdg : decode cc pc = .ok (.putfield index, 3))
    (kk : ∀ (H1 : Heap) (locs1 : List Loc), PW E A H0 H1 locs1 (gu g a (.inr (ci, fs.set k v))) → W p l e R s m args below meth c H1 locs1 cells slots Q (F0 m (pc + 3) ls rest)) : W p l e R s m args below meth c H locs cells slots Q (F0 m pc ls (v :: .ref a :: rest)) := by
  obtain ⟨ws, hP, hD, hw, -⟩ := hW.list
  obtain ⟨q0, hq0⟩ := hw a _ he
  exact va_putF hexec hb hts hin ty0 hty hnm hown hK.1 hP hD hW.2.1 q0 hq0 hc k hk (hts _ hlink) (fun _ h => h) hfin hin2 hdecl (hty k hk) hn hfit hl hdg (fun H1 locs1 hP1 _ hS1 => kk H1 locs1 (hW.back hw hq0 he hP1 hS1))
theorem g_iald (hexec : p.tables.exec = Jvm.exec) (hb : c.code = cc) (hK : KC E s) (hW : PW E A H0 H locs g) {n : Nat} {f : Nat → Int32} (ha : g a = some (.inl (E.2 0, n, .inl f))) {i : Int32} (hin : vp_in i n) (hdg : decode cc pc = .ok (.iaload, 1))
    (kk : W p l e R s m args below meth c H locs cells slots Q (F0 m (pc + 1) ls (.int (f i.toNatClampNeg) :: rest))) : W p l e R s m args below meth c H locs cells slots Q (F0 m pc ls (.int i :: .ref a :: rest)) :=
  va_iald hexec hb hK.1 (hW.one ha) 0 0 rfl rfl hin hdg kk
theorem g_zald (hexec : p.tables.exec = Jvm.exec) (hb : c.code = cc) (hK : KC E s) (hW : PW E A H0 H locs g) {n : Nat} {f : Nat → Int32} (ha : g a = some (.inl (E.2 1, n, .inl f))) {i : Int32} (hin : vp_in i n) (hdg : decode cc pc = .ok (.baload, 1))
    (kk : W p l e R s m args below meth c H locs cells slots Q (F0 m (pc + 1) ls (.int (f i.toNatClampNeg) :: rest))) : W p l e R s m args below meth c H locs cells slots Q (F0 m pc ls (.int i :: .ref a :: rest)) :=
  va_zald hexec hb hK.1 (hW.one ha) 0 1 rfl rfl hin hdg kk
theorem g_iast (hexec : p.tables.exec = Jvm.exec) (hb : c.code = cc) (hK : KC E s) (hW : PW E A H0 H locs g) {n : Nat} {f : Nat → Int32} (ha : g a = some (.inl (E.2 0, n, .inl f))) {i x : Int32} (hin : vp_in i n) (hdg : decode cc pc = .ok (.iastore, 1))
    (kk : ∀ (H1 : Heap) (locs1 : List Loc), PW E A H0 H1 locs1 (gu g a (.inl (E.2 0, n, .inl (upd f i.toNatClampNeg x)))) → W p l e R s m args below meth c H1 locs1 cells slots Q (F0 m (pc + 1) ls rest)) : W p l e R s m args below meth c H locs cells slots Q (F0 m pc ls (.int x :: .int i :: .ref a :: rest)) := by
  obtain ⟨ws, hP, hD, hw, -⟩ := hW.list
  obtain ⟨q0, hq0⟩ := hw a _ ha
  exact va_iast hexec hb hK.1 hP hD hW.2.1 q0 0 hq0 rfl hin hdg (fun H1 locs1 hP1 _ hS1 => kk H1 locs1 (hW.back hw hq0 ha hP1 hS1))
theorem g_zast (hexec : p.tables.exec = Jvm.exec) (hb : c.code = cc) (hK : KC E s) (hW : PW E A H0 H locs g) {n : Nat} {f : Nat → Int32} (ha : g a = some (.inl (E.2 1, n, .inl f))) {i x : Int32} (hin : vp_in i n) (hdg : decode cc pc = .ok (.bastore, 1))
    (kk : ∀ (H1 : Heap) (locs1 : List Loc), PW E A H0 H1 locs1 (gu g a (.inl (E.2 1, n, .inl (upd f i.toNatClampNeg (vp_nar .boolean x))))) → W p l e R s m args below meth c H1 locs1 cells slots Q (F0 m (pc + 1) ls rest)) : W p l e R s m args below meth c H locs cells slots Q (F0 m pc ls (.int x :: .int i :: .ref a :: rest)) := by
  obtain ⟨ws, hP, hD, hw, -⟩ := hW.list
  obtain ⟨q0, hq0⟩ := hw a _ ha
  exact va_zast hexec hb hK.1 hP hD hW.2.1 q0 1 hq0 rfl hin hdg (fun H1 locs1 hP1 _ hS1 => kk H1 locs1 (hW.back hw hq0 ha hP1 hS1))
theorem g_alen (hexec : p.tables.exec = Jvm.exec) (hb : c.code = cc) (hK : KC E s) (hW : PW E A H0 H locs g) {n : Nat} {f : Nat → Int32} (ha : g a = some (.inl (E.2 0, n, .inl f))) (hdg : decode cc pc = .ok (.arraylength, 1))
    (kk : W p l e R s m args below meth c H locs cells slots Q (F0 m (pc + 1) ls (.int (nI n) :: rest))) : W p l e R s m args below meth c H locs cells slots Q (F0 m pc ls (.ref a :: rest)) :=
  va_alen (tys := tys4 E) hexec hb hK.1 (hW.one ha) 0 0 rfl rfl rfl hdg kk
theorem g_aldM (hexec : p.tables.exec = Jvm.exec) (hb : c.code = cc) (hK : KC E s) (hW : PW E A H0 H locs g) {n : Nat} {f : Nat → Option Nat} (ha : g a = some (.inl (E.2 2, n, .inr (.inr (.inr (.inr f)))))) {i : Int32} (hin : vp_in i n) (hdg : decode cc pc = .ok (.aaload, 1))
    (kk : W p l e R s m args below meth c H locs cells slots Q (F0 m (pc + 1) ls (va_rf (f i.toNatClampNeg) :: rest))) : W p l e R s m args below meth c H locs cells slots Q (F0 m pc ls (.int i :: .ref a :: rest)) :=
  va_aldq hexec hb hK.1 (hW.one ha) 0 2 rfl rfl hin hdg kk
theorem g_aldC (hexec : p.tables.exec = Jvm.exec) (hb : c.code = cc) (hK : KC E s) (hW : PW E A H0 H locs g) {n : Nat} {f : Nat → Option Nat} (ha : g a = some (.inl (E.2 3, n, .inr (.inr (.inr (.inr f)))))) {i : Int32} (hin : vp_in i n) (hdg : decode cc pc = .ok (.aaload, 1))
    (kk : W p l e R s m args below meth c H locs cells slots Q (F0 m (pc + 1) ls (va_rf (f i.toNatClampNeg) :: rest))) : W p l e R s m args below meth c H locs cells slots Q (F0 m pc ls (.int i :: .ref a :: rest)) :=
  va_aldq hexec hb hK.1 (hW.one ha) 0 3 rfl rfl hin hdg kk
theorem g_astM (hexec : p.tables.exec = Jvm.exec) (hb : c.code = cc) (hK : KC E s) (hW : PW E A H0 H locs g) {n v : Nat} {f : Nat → Option Nat} {vs : List Value} (ha : g a = some (.inl (E.2 2, n, .inr (.inr (.inr (.inr f)))))) (hv : g v = some (.inr (1, vs))) {i : Int32} (hin : vp_in i n) (hdg : decode cc pc = .ok (.aastore, 1))
    (kk : ∀ (H1 : Heap) (locs1 : List Loc), PW E A H0 H1 locs1 (gu g a (.inl (E.2 2, n, .inr (.inr (.inr (.inr (va_up f i.toNatClampNeg (some v)))))))) → W p l e R s m args below meth c H1 locs1 cells slots Q (F0 m (pc + 1) ls rest)) : W p l e R s m args below meth c H locs cells slots Q (F0 m pc ls (.ref v :: .int i :: .ref a :: rest)) := by
  obtain ⟨ws, hP, hD, hw, -⟩ := hW.list
  obtain ⟨q0, hq0⟩ := hw a _ ha
  obtain ⟨qk, hqk⟩ := hw v _ hv
  exact va_astq (r := (RX1, TX1, 6)) hexec hb hK.1 hP hD hW.2.1 q0 2 qk 1 hq0 rfl hqk rfl hin hdg (fun H1 locs1 hP1 _ hS1 => kk H1 locs1 (hW.back hw hq0 ha hP1 hS1))
theorem g_astC (hexec : p.tables.exec = Jvm.exec) (hb : c.code = cc) (hK : KC E s) (hW : PW E A H0 H locs g) {n v : Nat} {f : Nat → Option Nat} {vs : List Value} (ha : g a = some (.inl (E.2 3, n, .inr (.inr (.inr (.inr f)))))) (hv : g v = some (.inr (0, vs))) {i : Int32} (hin : vp_in i n) (hdg : decode cc pc = .ok (.aastore, 1))
    (kk : ∀ (H1 : Heap) (locs1 : List Loc), PW E A H0 H1 locs1 (gu g a (.inl (E.2 3, n, .inr (.inr (.inr (.inr (va_up f i.toNatClampNeg (some v)))))))) → W p l e R s m args below meth c H1 locs1 cells slots Q (F0 m (pc + 1) ls rest)) : W p l e R s m args below meth c H locs cells slots Q (F0 m pc ls (.ref v :: .int i :: .ref a :: rest)) := by
  obtain ⟨ws, hP, hD, hw, -⟩ := hW.list
  obtain ⟨q0, hq0⟩ := hw a _ ha
  obtain ⟨qk, hqk⟩ := hw v _ hv
  exact va_astq (r := (RX0, TX0, 12)) hexec hb hK.1 hP hD hW.2.1 q0 3 qk 0 hq0 rfl hqk rfl hin hdg (fun H1 locs1 hP1 _ hS1 => kk H1 locs1 (hW.back hw hq0 ha hP1 hS1))
theorem g_newI (hexec : p.tables.exec = Jvm.exec) (hb : c.code = cc) (harr : (Cond.arrayClass .int).before args s = true) (hK : KC E s) (hW : PW E A H0 H locs g) {n : Int32} {N' : Nat} (hn : ¬ n < 0) (hN : n.toNatClampNeg = N') (hbytes : N' ≤ 1000000) (hcells : cells + 1 ≤ R.cells) (hslots : slots + N' ≤ R.slots) (hdg : decode cc pc = .ok (.newarray .int, 2))
    (kk : ∀ (q : Nat) (H1 : Heap), g q = none → PW E A H0 H1 locs (gu g q (.inl (E.2 0, N', .inl (fun _ => 0)))) → W p l e R s m args below meth c H1 locs (cells + 1) (slots + N') Q (F0 m (pc + 2) ls (.ref q :: rest))) : W p l e R s m args below meth c H locs cells slots Q (F0 m pc ls (.int n :: rest)) := by
  obtain ⟨ws, hP, hD, hw, -⟩ := hW.list
  refine va_newa (a0 := (N', .inl (fun _ => 0))) (ty := .int) hexec hb (atype := .int) harr rfl hK.1 hP hD hW.2.1 hW.2.2 (fun cA => rfl) hn hN (by simp [componentBytes]; omega) hcells hslots hdg (fun q cA H1 hK1 hP1 hD1 hS1 => ?_)
  have e1 : cA = E.2 0 := Option.some.inj ((show s.vm.findClass ("[" ++ (FieldType.int).toString) = some cA from (hK1.2 4 (cA, .int) rfl).2).symm.trans (show s.vm.findClass ("[" ++ (FieldType.int).toString) = some (E.2 0) from (hK.1.2 0 (E.2 0, .int) rfl).2))
  subst e1
  obtain ⟨h1, h2⟩ := hW.push hw hP1 hD1 hS1
  exact kk q H1 h1 h2
theorem g_newZ (hexec : p.tables.exec = Jvm.exec) (hb : c.code = cc) (harr : (Cond.arrayClass .boolean).before args s = true) (hK : KC E s) (hW : PW E A H0 H locs g) {n : Int32} {N' : Nat} (hn : ¬ n < 0) (hN : n.toNatClampNeg = N') (hbytes : N' ≤ 1000000) (hcells : cells + 1 ≤ R.cells) (hslots : slots + N' ≤ R.slots) (hdg : decode cc pc = .ok (.newarray .boolean, 2))
    (kk : ∀ (q : Nat) (H1 : Heap), g q = none → PW E A H0 H1 locs (gu g q (.inl (E.2 1, N', .inl (fun _ => 0)))) → W p l e R s m args below meth c H1 locs (cells + 1) (slots + N') Q (F0 m (pc + 2) ls (.ref q :: rest))) : W p l e R s m args below meth c H locs cells slots Q (F0 m pc ls (.int n :: rest)) := by
  obtain ⟨ws, hP, hD, hw, -⟩ := hW.list
  refine va_newa (a0 := (N', .inl (fun _ => 0))) (ty := .boolean) hexec hb (atype := .boolean) harr rfl hK.1 hP hD hW.2.1 hW.2.2 (fun cA => rfl) hn hN (by simp [componentBytes]; omega) hcells hslots hdg (fun q cA H1 hK1 hP1 hD1 hS1 => ?_)
  have e1 : cA = E.2 1 := Option.some.inj ((show s.vm.findClass ("[" ++ (FieldType.boolean).toString) = some cA from (hK1.2 4 (cA, .boolean) rfl).2).symm.trans (show s.vm.findClass ("[" ++ (FieldType.boolean).toString) = some (E.2 1) from (hK.1.2 1 (E.2 1, .boolean) rfl).2))
  subst e1
  obtain ⟨h1, h2⟩ := hW.push hw hP1 hD1 hS1
  exact kk q H1 h1 h2
theorem g_newM (hexec : p.tables.exec = Jvm.exec) (hb : c.code = cc) {own : String} {index : Nat} (hown : s.vm.findClass own = some m.cls) (hclink : (Cond.classLink own index RX1).before args s = true) (hK : KC E s) (hW : PW E A H0 H locs g) {n : Int32} {N' : Nat} (hn : ¬ n < 0) (hN : n.toNatClampNeg = N') (hbytes : N' ≤ 1000000) (hcells : cells + 1 ≤ R.cells) (hslots : slots + N' ≤ R.slots) (hdg : decode cc pc = .ok (.anewarray index, 3))
    (kk : ∀ (q : Nat) (H1 : Heap), g q = none → PW E A H0 H1 locs (gu g q (.inl (E.2 2, N', .inr (.inr (.inr (.inr (fun _ => none))))))) → W p l e R s m args below meth c H1 locs (cells + 1) (slots + N') Q (F0 m (pc + 3) ls (.ref q :: rest))) : W p l e R s m args below meth c H locs cells slots Q (F0 m pc ls (.int n :: rest)) := by
  obtain ⟨ws, hP, hD, hw, -⟩ := hW.list
  refine va_newq hexec hb hown hclink hK.2.2.2.2.1 hK.1 hP hD hW.2.1 hW.2.2 hn hN (by omega) hcells hslots hdg (fun q cA H1 hK1 hP1 hD1 hS1 => ?_)
  obtain ⟨kA, cp, -, -, -, f1⟩ := (hK1.2 4 (cA, .object RX1) rfl).2
  obtain ⟨kA2, cp2, -, -, -, f2⟩ := (hK.1.2 2 (E.2 2, .object RX1) rfl).2
  have e1 : cA = E.2 2 := Option.some.inj (f1.symm.trans f2)
  subst e1
  obtain ⟨h1, h2⟩ := hW.push hw hP1 hD1 hS1
  exact kk q H1 h1 h2
theorem g_newC (hexec : p.tables.exec = Jvm.exec) (hb : c.code = cc) {own : String} {index : Nat} (hown : s.vm.findClass own = some m.cls) (hclink : (Cond.classLink own index RX0).before args s = true) (hK : KC E s) (hW : PW E A H0 H locs g) {n : Int32} {N' : Nat} (hn : ¬ n < 0) (hN : n.toNatClampNeg = N') (hbytes : N' ≤ 1000000) (hcells : cells + 1 ≤ R.cells) (hslots : slots + N' ≤ R.slots) (hdg : decode cc pc = .ok (.anewarray index, 3))
    (kk : ∀ (q : Nat) (H1 : Heap), g q = none → PW E A H0 H1 locs (gu g q (.inl (E.2 3, N', .inr (.inr (.inr (.inr (fun _ => none))))))) → W p l e R s m args below meth c H1 locs (cells + 1) (slots + N') Q (F0 m (pc + 3) ls (.ref q :: rest))) : W p l e R s m args below meth c H locs cells slots Q (F0 m pc ls (.int n :: rest)) := by
  obtain ⟨ws, hP, hD, hw, -⟩ := hW.list
  refine va_newq hexec hb hown hclink hK.2.2.2.2.2 hK.1 hP hD hW.2.1 hW.2.2 hn hN (by omega) hcells hslots hdg (fun q cA H1 hK1 hP1 hD1 hS1 => ?_)
  obtain ⟨kA, cp, -, -, -, f1⟩ := (hK1.2 4 (cA, .object RX0) rfl).2
  obtain ⟨kA2, cp2, -, -, -, f2⟩ := (hK.1.2 3 (E.2 3, .object RX0) rfl).2
  have e1 : cA = E.2 3 := Option.some.inj (f1.symm.trans f2)
  subst e1
  obtain ⟨h1, h2⟩ := hW.push hw hP1 hD1 hS1
  exact kk q H1 h1 h2
theorem g_new {c0 : Code} (hexec : p.tables.exec = Jvm.exec) (hb : c0.code = cc) {own C : String} {T : u_T} {N ci index : Nat} (hts : ∀ w ∈ wsL_law, w.before args s = true) (hin : ∀ w ∈ u_ws C T N, w ∈ wsL_law) (hc : vwCl[ci]? = some (C, T, N)) (ty : Nat → FieldType) (hty : ∀ k, k < N → parseFieldDescriptor (T k).2.2.1 = some (ty k)) (hown : s.vm.findClass own = some m.cls) (hcl : Cond.classLink own index C ∈ wsL_law) (hinst : Cond.instantiable C N ∈ wsL_law) (hini : Cond.initialized C ∈ wsL_law)
    (hK : KC E s) (hW : PW E A H0 H locs g) {fs : List Value} (hfs : ∀ j, j < N → defaultValue (ty j) = vp_V fs j) (hcells : cells + 1 ≤ R.cells) (hslots : slots + N ≤ R.slots) (hdg : decode cc pc = .ok (.new index, 3))
    (kk : ∀ (q : Nat) (H1 : Heap), g q = none → PW E A H0 H1 locs (gu g q (.inr (ci, fs))) → W p l e R s m args below meth c0 H1 locs (cells + 1) (slots + N) Q (F0 m (pc + 3) ls (.ref q :: rest))) : W p l e R s m args below meth c0 H locs cells slots Q (F0 m pc ls rest) := by
  obtain ⟨ws, hP, hD, hw, -⟩ := hW.list
  exact va_new hexec hb hts hin ty hty hown (hts _ hcl) (hts _ hinst) (hts _ hini) hK.1 hP hD hW.2.1 hW.2.2 hc hfs hcells hslots hdg (fun q H1 hP1 hD1 hS1 => kk q H1 (hW.push hw hP1 hD1 hS1).1 (hW.push hw hP1 hD1 hS1).2)
end GR
end
section
theorem gi_law {ws : List Cond} (h : ∀ w ∈ ws, w ∈ wsL_law) : GoodIn wsL_law ws := fun w hw => ⟨h w hw, wsL_good w (h w hw)⟩
theorem gi_code {y : MethodName} {cc : ByteArray} {n : Nat} {ret : Option FieldType} (h : Cond.code y cc n ret ∈ wsL_law) : ∀ w ∈ (Cond.code y cc n ret :: wsL_law), w ∈ wsL_law := fun w hw => (List.mem_cons.mp hw).elim (fun e => e ▸ h) id
theorem pc_blind (E : gE) (g : gm) (sz : Nat) (av : List Value) : FrameBlind (va_Pc av (PC E g sz)) := fun a U g' mk h => ⟨h.1, h.2.1, h.2.2.1, KC.same (s := U) rfl h.2.2.2⟩
section CR
variable {p : Program} {l : Launch} {e : Env} {R : Room} {s : State} {m : MethodId} {args : Array Value} {below : List Frame} {meth : Method} {c : Code} {H : Heap} {locs : List Loc} {cells slots : Nat} {Q : State → Prop}
variable {cc : ByteArray} {pc nL : Nat} {ls : Array Slot} {rest st0 : List Value} {E : gE} {A : Nat → Prop} {H0 : Heap} {g : gm} {post : Option Value → gm → Prop}
/-- behind a call: the callee's world, and every world apart from it -/
def KT (E : gE) (A : Nat → Prop) (H0 H H1 : Heap) (locs locs1 : List Loc) (g g' : gm) : Prop := ∀ gf : gm, PW E A H0 H locs gf → (∀ a, (gf a).isSome = true → g a = none) → PW E A H0 H1 locs1 gf ∧ ∀ a, (gf a).isSome = true → g' a = none
theorem c_run {mc ms : Nat} {a0 : Array Value} (hr : va_Run p l e R s m args below meth c H locs cells slots mc ms (F0 m pc ls st0) rest (QC E g H.size post a0) (fr g H.size)) (hW : PW E A H0 H locs g)
    (kk : ∀ (v : Option Value) (g' : gm) (H1 : Heap) (locs1 : List Loc), post v g' → PW E A H0 H1 locs1 g' → KT E A H0 H H1 locs locs1 g g' → W p l e R s m args below meth c H1 locs1 (cells + mc) (slots + ms) Q (F0 m (pc + 3) ls (v.toList ++ rest))) : W p l e R s m args below meth c H locs cells slots Q (F0 m pc ls st0) := by
  intro T hT X
  obtain ⟨v, st₀, t, T', L, h0, X', hL, e1, e2, ⟨⟨v', g', hv, hp, hc⟩, hz, hk⟩, st⟩ := hr T hT X
  cases hv
  rw [h0] at hz hk
  have hfr : ∀ q, fr g H.size q → A q := fun q h => by
    rcases h with h | h
    · cases hg : g q with
      | none => rw [hg] at h; cases h
      | some e0 => exact (hW.1 q e0 hg).2
    · exact hW.2.2 q (Nat.le_trans hW.2.1.1 h)
  have hS1 : va_S A H0 T'.heap (locs ++ L) := ⟨Nat.le_trans hW.2.1.1 (by rw [e1]; exact hz), fun q h1 h2 => by rw [e1, hk q (Nat.lt_of_lt_of_le h1 hW.2.1.1) (fun z => h2 (hfr q z))]; exact hW.2.1.2.1 q h1 h2, fun q hq => by
      rcases List.mem_append.mp hq with h | h
      · exact hW.2.1.2.2 q h
      · exact hfr _ (hL q h)⟩
  obtain ⟨t2, a1, b1⟩ := kk v g' T'.heap (locs ++ L) hp ⟨fun a e h => ⟨by rw [e1]; exact (hc a e h).1, hfr a (hc a e h).2⟩, hS1, hW.2.2⟩ (fun gf hF hdis => by
    have hap : ∀ a e, gf a = some e → a < H.size ∧ ¬ fr g H.size a := fun a e h => by
      have hl := hF.lt h
      refine ⟨hl, fun q => ?_⟩
      rcases q with q | q
      · rw [hdis a (by rw [h]; rfl)] at q; cases q
      · omega
    refine ⟨⟨fun a e h => ⟨(hF.1 a e h).1.kept (by rw [e1]; exact hk a (hap a e h).1 (hap a e h).2), (hF.1 a e h).2⟩, hS1, hW.2.2⟩, fun a h => ?_⟩
    cases hg : g' a with
    | none => rfl
    | some e0 =>
      cases hf : gf a with
      | none => rw [hf] at h; cases h
      | some e2 => exact absurd (hc a e0 hg).2 (hap a e2 hf).2) T' rfl X'
  exact ⟨t2, st t2 a1, b1⟩
theorem c_virt {y : MethodName} {bytes : ByteArray} {maxL index : Nat} {ret : Option FieldType} {rm : Room} {own : String} {b : Nat} {As : List Value} (hx : p.tables.exec = Jvm.exec) (hb : c.code = cc) (hml : c.maxLocals = nL) (hown : s.vm.findClass own = some m.cls) (hts : ∀ w ∈ wsL_law, w.before args s = true) (hK : KC E s) (hW : PW E A H0 H locs g)
    (hM : CM l y bytes maxL ret rm E (.ref b :: As) g post) (h1 : Cond.methodLink own index y ∈ wsL_law) (h2 : Cond.instanceMethod y ∈ wsL_law) (h3 : Cond.selects y.cls y y ∈ wsL_law) (h4 : Cond.initialized y.cls ∈ wsL_law) (h5 : Cond.code y bytes maxL ret ∈ wsL_law)
    (n : Nat) (hd : y.cls ≠ "java/lang/invoke/MethodHandle" ∧ y.cls ≠ "java/lang/invoke/VarHandle" ∧ (parseMethodDescriptor y.desc).map (fun d => d.parameters.length) = some n) (hR : rm.frames + 1 ≤ R.frames ∧ 8 + (maxL + 11) + rm.locals ≤ R.locals)
    {ci : Nat} {fs : List Value} {q : vw_C} (he : g b = some (.inr (ci, fs))) (hc : vwCl[ci]? = some q) (hcq : q.1 = y.cls) (hn : As.length = n) (hsize : ls.size = nL) (hstack : st0 = As.reverse ++ .ref b :: rest) (hst : (rest.map fun v => v.category).sum ≤ 8) (hdg : decode cc pc = .ok (.invokevirtual index, 3)) (hf : cells + rm.cells ≤ R.cells ∧ slots + rm.slots ≤ R.slots)
    (kk : ∀ (v : Option Value) (g' : gm) (H1 : Heap) (locs1 : List Loc), post v g' → PW E A H0 H1 locs1 g' → KT E A H0 H H1 locs locs1 g g' → W p l e R s m args below meth c H1 locs1 (cells + rm.cells) (slots + rm.slots) Q (F0 m (pc + 3) ls (v.toList ++ rest))) : W p l e R s m args below meth c H locs cells slots Q (F0 m pc ls st0) := by
  have hG : GoodIn wsL_law (wsV own index y.cls y (Cond.code y bytes maxL ret :: wsL_law)) := gi_law (fun w hw => by
    rcases List.mem_append.mp hw with h | h
    · simp only [List.mem_cons, List.not_mem_nil, or_false] at h
      rcases h with rfl | rfl | rfl | rfl
      · exact h1
      · exact h2
      · exact h3
      · exact h4
    · exact gi_code h5 w h)
  have hrec := va_recv hK.1 (hW.one he) hc (q0 := 0) rfl
  rw [hcq] at hrec
  exact c_run (va_runV (As := As) (rest := rest) (C := y.cls) ⟨hx, hb, hml, hown, hts⟩ (hM H.size) (cwV n hts hG rfl rfl rfl ⟨rfl, hd⟩ hR) ⟨pc_blind E g H.size _, hrec, fun U hU hWm => ⟨rfl, by rw [hU], fun a e h => by rw [hU]; exact (hW.1 a e h).1, hK.warm hWm⟩⟩ rfl hn hsize hstack (lv_room hst) hdg hf) hW kk
theorem c_stat {y : MethodName} {bytes : ByteArray} {maxL index : Nat} {ret : Option FieldType} {rm : Room} {own : String} {As : List Value} (hx : p.tables.exec = Jvm.exec) (hb : c.code = cc) (hml : c.maxLocals = nL) (hown : s.vm.findClass own = some m.cls) (hts : ∀ w ∈ wsL_law, w.before args s = true) (hK : KC E s) (hW : PW E A H0 H locs g)
    (hM : CM l y bytes maxL ret rm E As g post) (h1 : Cond.methodLink own index y ∈ wsL_law) (h2 : Cond.static y ∈ wsL_law) (h4 : Cond.initialized y.cls ∈ wsL_law) (h5 : Cond.code y bytes maxL ret ∈ wsL_law)
    (n : Nat) (hd : y.cls ≠ "java/lang/invoke/MethodHandle" ∧ y.cls ≠ "java/lang/invoke/VarHandle" ∧ (parseMethodDescriptor y.desc).map (fun d => d.parameters.length) = some n) (hR : rm.frames + 1 ≤ R.frames ∧ 8 + (maxL + 11) + rm.locals ≤ R.locals)
    (hn : As.length = n) (hsize : ls.size = nL) (hstack : st0 = As.reverse ++ rest) (hst : (rest.map fun v => v.category).sum ≤ 8) (hdg : decode cc pc = .ok (.invokestatic index, 3)) (hf : cells + rm.cells ≤ R.cells ∧ slots + rm.slots ≤ R.slots)
    (kk : ∀ (v : Option Value) (g' : gm) (H1 : Heap) (locs1 : List Loc), post v g' → PW E A H0 H1 locs1 g' → KT E A H0 H H1 locs locs1 g g' → W p l e R s m args below meth c H1 locs1 (cells + rm.cells) (slots + rm.slots) Q (F0 m (pc + 3) ls (v.toList ++ rest))) : W p l e R s m args below meth c H locs cells slots Q (F0 m pc ls st0) := by
  have hG : GoodIn wsL_law (va_wsS own index y (Cond.code y bytes maxL ret :: wsL_law)) := gi_law (fun w hw => by
    rcases List.mem_append.mp hw with h | h
    · simp only [List.mem_cons, List.not_mem_nil, or_false] at h
      rcases h with rfl | rfl | rfl
      · exact h1
      · exact h2
      · exact h4
    · exact gi_code h5 w h)
  exact c_run (va_runS (As := As) (rest := rest) ⟨hx, hb, hml, hown, hts⟩ (hM H.size) (va_cwS n hts hG rfl rfl rfl hd hR) ⟨pc_blind E g H.size _, fun U hU hWm => ⟨rfl, by rw [hU], fun a e h => by rw [hU]; exact (hW.1 a e h).1, hK.warm hWm⟩⟩ rfl hn hsize hstack (lv_room hst) hdg hf) hW kk
theorem c_statN {y : MethodName} {bytes : ByteArray} {maxL index : Nat} {ret : Option FieldType} {rm : Room} {own host : String} {As : List Value} (hx : p.tables.exec = Jvm.exec) (hb : c.code = cc) (hml : c.maxLocals = nL) (hown : s.vm.findClass own = some m.cls) (hts : ∀ w ∈ wsL_law, w.before args s = true) (hK : KC E s) (hW : PW E A H0 H locs g)
    (hM : CM l y bytes maxL ret rm E As g post) (h1 : va_Nw (.methodLinkNest own index y host) s) (h2 : Cond.static y ∈ wsL_law) (h4 : Cond.initialized y.cls ∈ wsL_law) (h5 : Cond.code y bytes maxL ret ∈ wsL_law)
    (n : Nat) (hd : y.cls ≠ "java/lang/invoke/MethodHandle" ∧ y.cls ≠ "java/lang/invoke/VarHandle" ∧ (parseMethodDescriptor y.desc).map (fun d => d.parameters.length) = some n) (hR : rm.frames + 1 ≤ R.frames ∧ 8 + (maxL + 11) + rm.locals ≤ R.locals)
    (hn : As.length = n) (hsize : ls.size = nL) (hstack : st0 = As.reverse ++ rest) (hst : (rest.map fun v => v.category).sum ≤ 8) (hdg : decode cc pc = .ok (.invokestatic index, 3)) (hf : cells + rm.cells ≤ R.cells ∧ slots + rm.slots ≤ R.slots)
    (kk : ∀ (v : Option Value) (g' : gm) (H1 : Heap) (locs1 : List Loc), post v g' → PW E A H0 H1 locs1 g' → KT E A H0 H H1 locs locs1 g g' → W p l e R s m args below meth c H1 locs1 (cells + rm.cells) (slots + rm.slots) Q (F0 m (pc + 3) ls (v.toList ++ rest))) : W p l e R s m args below meth c H locs cells slots Q (F0 m pc ls st0) :=
  c_run (va_runSN (As := As) (rest := rest) ⟨hx, hb, hml, hown, hts⟩ (hM H.size) ⟨va_cnB n hts (gi_law (gi_code h5)) rfl rfl rfl h1 (hts _ h4) hd hR, hts _ h2, trivial⟩ ⟨pc_blind E g H.size _, fun U hU hWm => ⟨rfl, by rw [hU], fun a e h => by rw [hU]; exact (hW.1 a e h).1, hK.warm hWm⟩⟩ rfl hn hsize hstack (lv_room hst) hdg hf) hW kk
theorem c_init {y : MethodName} {bytes : ByteArray} {maxL index : Nat} {rm : Room} {own : String} {b : Nat} {As : List Value} (hx : p.tables.exec = Jvm.exec) (hb : c.code = cc) (hml : c.maxLocals = nL) (hown : s.vm.findClass own = some m.cls) (hts : ∀ w ∈ wsL_law, w.before args s = true) (hK : KC E s) (hW : PW E A H0 H locs g)
    (hM : CM l y bytes maxL none rm E (.ref b :: As) g post) (h1 : Cond.methodLink own index y ∈ wsL_law) (h2 : Cond.instanceMethod y ∈ wsL_law) (h4 : Cond.initialized y.cls ∈ wsL_law) (h5 : Cond.code y bytes maxL none ∈ wsL_law) (hy1 : y.name = "<init>")
    (n : Nat) (hd : y.cls ≠ "java/lang/invoke/MethodHandle" ∧ y.cls ≠ "java/lang/invoke/VarHandle" ∧ (parseMethodDescriptor y.desc).map (fun d => d.parameters.length) = some n) (hR : rm.frames + 1 ≤ R.frames ∧ 8 + (maxL + 11) + rm.locals ≤ R.locals)
    (hn : As.length = n) (hsize : ls.size = nL) (hstack : st0 = As.reverse ++ .ref b :: rest) (hst : (rest.map fun v => v.category).sum ≤ 8) (hdg : decode cc pc = .ok (.invokespecial index, 3)) (hf : cells + rm.cells ≤ R.cells ∧ slots + rm.slots ≤ R.slots)
    (kk : ∀ (v : Option Value) (g' : gm) (H1 : Heap) (locs1 : List Loc), post v g' → PW E A H0 H1 locs1 g' → KT E A H0 H H1 locs locs1 g g' → W p l e R s m args below meth c H1 locs1 (cells + rm.cells) (slots + rm.slots) Q (F0 m (pc + 3) ls (v.toList ++ rest))) : W p l e R s m args below meth c H locs cells slots Q (F0 m pc ls st0) :=
  c_run (va_runI (As := As) (rest := rest) ⟨hx, hb, hml, hown, hts⟩ (hM H.size) (cwI n hts (gi_law (gi_code h5)) rfl rfl rfl (hts _ h4) (hts _ h1) (hts _ h2) hy1 hd hR) ⟨pc_blind E g H.size _, fun U hU hWm => ⟨rfl, by rw [hU], fun a e h => by rw [hU]; exact (hW.1 a e h).1, hK.warm hWm⟩⟩ rfl hn hsize hstack (lv_room hst) hdg hf) hW kk
theorem r_int {v : Int32} {mc ms : Nat} {g0 : gm} (hx : p.tables.exec = Jvm.exec) (hb : c.code = cc) (hr : meth.sig.returnType = some .int) (hlk : meth.locks = false) (hW : PW E (fr g0 s.heap.size) s.heap H locs g) (hq : post (some (.int v)) g) (hmc : cells ≤ mc) (hms : slots ≤ ms) (hdg : decode cc pc = .ok (.ireturn, 1)) : W p l e R s m args below meth c H locs cells slots (MQ below (QC E g0 s.heap.size post) args s mc ms (fr g0 s.heap.size)) (F0 m pc ls [.int v]) :=
  W.widen hmc hms (W.iret hx hb hr (fun t ht _ => ⟨⟨_, g, rfl, hq, fun a e h => by rw [ht]; exact hW.1 a e h⟩, hW.2.1.F ht⟩) hW.2.1.2.2 hdg hlk)
theorem r_bool {v : Int32} {mc ms : Nat} {g0 : gm} (hx : p.tables.exec = Jvm.exec) (hb : c.code = cc) (hr : meth.sig.returnType = some .boolean) (hlk : meth.locks = false) (hW : PW E (fr g0 s.heap.size) s.heap H locs g) (hn : narrow .boolean (.int v) = .int v) (hq : post (some (.int v)) g) (hmc : cells ≤ mc) (hms : slots ≤ ms) (hdg : decode cc pc = .ok (.ireturn, 1)) : W p l e R s m args below meth c H locs cells slots (MQ below (QC E g0 s.heap.size post) args s mc ms (fr g0 s.heap.size)) (F0 m pc ls [.int v]) :=
  W.widen hmc hms (W.zret hx hb hr hn (fun t ht _ => ⟨⟨_, g, rfl, hq, fun a e h => by rw [ht]; exact hW.1 a e h⟩, hW.2.1.F ht⟩) hW.2.1.2.2 hdg hlk)
theorem r_void {mc ms : Nat} {g0 : gm} (hx : p.tables.exec = Jvm.exec) (hb : c.code = cc) (hr : meth.sig.returnType = none) (hlk : meth.locks = false) (hW : PW E (fr g0 s.heap.size) s.heap H locs g) (hq : post none g) (hmc : cells ≤ mc) (hms : slots ≤ ms) (hdg : decode cc pc = .ok (.return_, 1)) : W p l e R s m args below meth c H locs cells slots (MQ below (QC E g0 s.heap.size post) args s mc ms (fr g0 s.heap.size)) (F0 m pc ls []) :=
  W.widen hmc hms (W.vret hx hb hr (fun t ht _ => ⟨⟨_, g, rfl, hq, fun a e h => by rw [ht]; exact hW.1 a e h⟩, hW.2.1.F ht⟩) hW.2.1.2.2 hdg hlk)
theorem r_ref {v : Option Nat} {mc ms : Nat} {g0 : gm} {C : String} (hx : p.tables.exec = Jvm.exec) (hb : c.code = cc) (hr : meth.sig.returnType = some (.object C)) (hlk : meth.locks = false) (hW : PW E (fr g0 s.heap.size) s.heap H locs g) (hq : post (some (va_rf v)) g) (hmc : cells ≤ mc) (hms : slots ≤ ms) (hdg : decode cc pc = .ok (.areturn, 1)) : W p l e R s m args below meth c H locs cells slots (MQ below (QC E g0 s.heap.size post) args s mc ms (fr g0 s.heap.size)) (F0 m pc ls [va_rf v]) :=
  W.widen hmc hms (W.aret hx hb hr (Or.inl ⟨_, rfl⟩) (va_rf_or v) (fun t ht _ => ⟨⟨_, g, rfl, hq, fun a e h => by rw [ht]; exact hW.1 a e h⟩, hW.2.1.F ht⟩) hW.2.1.2.2 hdg hlk)
end CR
/-! bits -/
def bI (b : Bool) : Int32 := if b then 1 else 0
theorem bI_eq0 (b : Bool) : bI b = 0 ↔ b = false := by cases b <;> decide
theorem bI_eq1 (b : Bool) : bI b = 1 ↔ b = true := by cases b <;> decide
theorem bI_t : bI true = 1 := rfl
theorem bI_f : bI false = 0 := rfl
theorem nb_bI (b : Bool) : narrow .boolean (.int (bI b)) = .int (bI b) := by cases b <;> decide
theorem nr_bI (b : Bool) : vp_nar .boolean (bI b) = bI b := by cases b <;> decide
end
section
theorem dX0_init_0 : decode cX0_init 0 = .ok (.aload_n 0, 1) := by decide +kernel
theorem dX0_init_1 : decode cX0_init 1 = .ok (.invokespecial 3, 3) := by decide +kernel
theorem dX0_init_4 : decode cX0_init 4 = .ok (.aload_n 0, 1) := by decide +kernel
theorem dX0_init_5 : decode cX0_init 5 = .ok (.iload_n 1, 1) := by decide +kernel
theorem dX0_init_6 : decode cX0_init 6 = .ok (.putfield 9, 3) := by decide +kernel
theorem dX0_init_9 : decode cX0_init 9 = .ok (.return_, 1) := by decide +kernel
theorem dX0_setAnew_0 : decode cX0_setAnew 0 = .ok (.aload_n 0, 1) := by decide +kernel
theorem dX0_setAnew_1 : decode cX0_setAnew 1 = .ok (.iload_n 1, 1) := by decide +kernel
theorem dX0_setAnew_2 : decode cX0_setAnew 2 = .ok (.putfield 15, 3) := by decide +kernel
theorem dX0_setAnew_5 : decode cX0_setAnew 5 = .ok (.aload_n 0, 1) := by decide +kernel
theorem dX0_setAnew_6 : decode cX0_setAnew 6 = .ok (.iload_n 2, 1) := by decide +kernel
theorem dX0_setAnew_7 : decode cX0_setAnew 7 = .ok (.putfield 18, 3) := by decide +kernel
theorem dX0_setAnew_10 : decode cX0_setAnew 10 = .ok (.aload_n 0, 1) := by decide +kernel
theorem dX0_setAnew_11 : decode cX0_setAnew 11 = .ok (.iload_n 3, 1) := by decide +kernel
theorem dX0_setAnew_12 : decode cX0_setAnew 12 = .ok (.putfield 21, 3) := by decide +kernel
theorem dX0_setAnew_15 : decode cX0_setAnew 15 = .ok (.aload_n 0, 1) := by decide +kernel
theorem dX0_setAnew_16 : decode cX0_setAnew 16 = .ok (.iload 4, 2) := by decide +kernel
theorem dX0_setAnew_18 : decode cX0_setAnew 18 = .ok (.putfield 24, 3) := by decide +kernel
theorem dX0_setAnew_21 : decode cX0_setAnew 21 = .ok (.aload_n 0, 1) := by decide +kernel
theorem dX0_setAnew_22 : decode cX0_setAnew 22 = .ok (.iconst 0, 1) := by decide +kernel
theorem dX0_setAnew_23 : decode cX0_setAnew 23 = .ok (.putfield 27, 3) := by decide +kernel
theorem dX0_setAnew_26 : decode cX0_setAnew 26 = .ok (.aload_n 0, 1) := by decide +kernel
theorem dX0_setAnew_27 : decode cX0_setAnew 27 = .ok (.iconst 0, 1) := by decide +kernel
theorem dX0_setAnew_28 : decode cX0_setAnew 28 = .ok (.putfield 30, 3) := by decide +kernel
theorem dX0_setAnew_31 : decode cX0_setAnew 31 = .ok (.aload_n 0, 1) := by decide +kernel
theorem dX0_setAnew_32 : decode cX0_setAnew 32 = .ok (.iconst (-1), 1) := by decide +kernel
theorem dX0_setAnew_33 : decode cX0_setAnew 33 = .ok (.putfield 33, 3) := by decide +kernel
theorem dX0_setAnew_36 : decode cX0_setAnew 36 = .ok (.aload_n 0, 1) := by decide +kernel
theorem dX0_setAnew_37 : decode cX0_setAnew 37 = .ok (.iconst 0, 1) := by decide +kernel
theorem dX0_setAnew_38 : decode cX0_setAnew 38 = .ok (.putfield 36, 3) := by decide +kernel
theorem dX0_setAnew_41 : decode cX0_setAnew 41 = .ok (.aload_n 0, 1) := by decide +kernel
theorem dX0_setAnew_42 : decode cX0_setAnew 42 = .ok (.iconst 0, 1) := by decide +kernel
theorem dX0_setAnew_43 : decode cX0_setAnew 43 = .ok (.putfield 40, 3) := by decide +kernel
theorem dX0_setAnew_46 : decode cX0_setAnew 46 = .ok (.aload_n 0, 1) := by decide +kernel
theorem dX0_setAnew_47 : decode cX0_setAnew 47 = .ok (.iconst 0, 1) := by decide +kernel
theorem dX0_setAnew_48 : decode cX0_setAnew 48 = .ok (.putfield 43, 3) := by decide +kernel
theorem dX0_setAnew_51 : decode cX0_setAnew 51 = .ok (.aload_n 0, 1) := by decide +kernel
theorem dX0_setAnew_52 : decode cX0_setAnew 52 = .ok (.iconst 0, 1) := by decide +kernel
theorem dX0_setAnew_53 : decode cX0_setAnew 53 = .ok (.putfield 46, 3) := by decide +kernel
theorem dX0_setAnew_56 : decode cX0_setAnew 56 = .ok (.return_, 1) := by decide +kernel
theorem dX0_asksFor_0 : decode cX0_asksFor 0 = .ok (.aload_n 0, 1) := by decide +kernel
theorem dX0_asksFor_1 : decode cX0_asksFor 1 = .ok (.getfield 40, 3) := by decide +kernel
theorem dX0_asksFor_4 : decode cX0_asksFor 4 = .ok (.ifCond .ne 22, 3) := by decide +kernel
theorem dX0_asksFor_7 : decode cX0_asksFor 7 = .ok (.aload_n 1, 1) := by decide +kernel
theorem dX0_asksFor_8 : decode cX0_asksFor 8 = .ok (.aload_n 0, 1) := by decide +kernel
theorem dX0_asksFor_9 : decode cX0_asksFor 9 = .ok (.getfield 15, 3) := by decide +kernel
theorem dX0_asksFor_12 : decode cX0_asksFor 12 = .ok (.aload_n 0, 1) := by decide +kernel
theorem dX0_asksFor_13 : decode cX0_asksFor 13 = .ok (.getfield 18, 3) := by decide +kernel
theorem dX0_asksFor_16 : decode cX0_asksFor 16 = .ok (.invokevirtual 49, 3) := by decide +kernel
theorem dX0_asksFor_19 : decode cX0_asksFor 19 = .ok (.ifCond .eq 7, 3) := by decide +kernel
theorem dX0_asksFor_22 : decode cX0_asksFor 22 = .ok (.iconst 1, 1) := by decide +kernel
theorem dX0_asksFor_23 : decode cX0_asksFor 23 = .ok (.goto 4, 3) := by decide +kernel
theorem dX0_asksFor_26 : decode cX0_asksFor 26 = .ok (.iconst 0, 1) := by decide +kernel
theorem dX0_asksFor_27 : decode cX0_asksFor 27 = .ok (.ireturn, 1) := by decide +kernel
theorem dX0_takes_0 : decode cX0_takes 0 = .ok (.aload_n 1, 1) := by decide +kernel
theorem dX0_takes_1 : decode cX0_takes 1 = .ok (.aload_n 0, 1) := by decide +kernel
theorem dX0_takes_2 : decode cX0_takes 2 = .ok (.getfield 21, 3) := by decide +kernel
theorem dX0_takes_5 : decode cX0_takes 5 = .ok (.aload_n 0, 1) := by decide +kernel
theorem dX0_takes_6 : decode cX0_takes 6 = .ok (.getfield 24, 3) := by decide +kernel
theorem dX0_takes_9 : decode cX0_takes 9 = .ok (.invokevirtual 49, 3) := by decide +kernel
theorem dX0_takes_12 : decode cX0_takes 12 = .ok (.ireturn, 1) := by decide +kernel
theorem dX0_canDo_0 : decode cX0_canDo 0 = .ok (.iload_n 1, 1) := by decide +kernel
theorem dX0_canDo_1 : decode cX0_canDo 1 = .ok (.iconst 2, 1) := by decide +kernel
theorem dX0_canDo_2 : decode cX0_canDo 2 = .ok (.if_icmp .eq 13, 3) := by decide +kernel
theorem dX0_canDo_5 : decode cX0_canDo 5 = .ok (.iload_n 1, 1) := by decide +kernel
theorem dX0_canDo_6 : decode cX0_canDo 6 = .ok (.iconst 3, 1) := by decide +kernel
theorem dX0_canDo_7 : decode cX0_canDo 7 = .ok (.if_icmp .eq 8, 3) := by decide +kernel
theorem dX0_canDo_10 : decode cX0_canDo 10 = .ok (.iload_n 1, 1) := by decide +kernel
theorem dX0_canDo_11 : decode cX0_canDo 11 = .ok (.iconst 4, 1) := by decide +kernel
theorem dX0_canDo_12 : decode cX0_canDo 12 = .ok (.if_icmp .ne 30, 3) := by decide +kernel
theorem dX0_canDo_15 : decode cX0_canDo 15 = .ok (.aload_n 0, 1) := by decide +kernel
theorem dX0_canDo_16 : decode cX0_canDo 16 = .ok (.getfield 24, 3) := by decide +kernel
theorem dX0_canDo_19 : decode cX0_canDo 19 = .ok (.ifCond .le 21, 3) := by decide +kernel
theorem dX0_canDo_22 : decode cX0_canDo 22 = .ok (.aload_n 0, 1) := by decide +kernel
theorem dX0_canDo_23 : decode cX0_canDo 23 = .ok (.getfield 21, 3) := by decide +kernel
theorem dX0_canDo_26 : decode cX0_canDo 26 = .ok (.aload_n 0, 1) := by decide +kernel
theorem dX0_canDo_27 : decode cX0_canDo 27 = .ok (.getfield 24, 3) := by decide +kernel
theorem dX0_canDo_30 : decode cX0_canDo 30 = .ok (.invokestatic 55, 3) := by decide +kernel
theorem dX0_canDo_33 : decode cX0_canDo 33 = .ok (.ifCond .ne 7, 3) := by decide +kernel
theorem dX0_canDo_36 : decode cX0_canDo 36 = .ok (.iconst 1, 1) := by decide +kernel
theorem dX0_canDo_37 : decode cX0_canDo 37 = .ok (.goto 4, 3) := by decide +kernel
theorem dX0_canDo_40 : decode cX0_canDo 40 = .ok (.iconst 0, 1) := by decide +kernel
theorem dX0_canDo_41 : decode cX0_canDo 41 = .ok (.ireturn, 1) := by decide +kernel
theorem dX0_canDo_42 : decode cX0_canDo 42 = .ok (.iload_n 1, 1) := by decide +kernel
theorem dX0_canDo_43 : decode cX0_canDo 43 = .ok (.ifCond .lt 12, 3) := by decide +kernel
theorem dX0_canDo_46 : decode cX0_canDo 46 = .ok (.iload_n 1, 1) := by decide +kernel
theorem dX0_canDo_47 : decode cX0_canDo 47 = .ok (.iconst 5, 1) := by decide +kernel
theorem dX0_canDo_48 : decode cX0_canDo 48 = .ok (.if_icmp .gt 7, 3) := by decide +kernel
theorem dX0_canDo_51 : decode cX0_canDo 51 = .ok (.iconst 1, 1) := by decide +kernel
theorem dX0_canDo_52 : decode cX0_canDo 52 = .ok (.goto 4, 3) := by decide +kernel
theorem dX0_canDo_55 : decode cX0_canDo 55 = .ok (.iconst 0, 1) := by decide +kernel
theorem dX0_canDo_56 : decode cX0_canDo 56 = .ok (.ireturn, 1) := by decide +kernel
theorem dX1_init_0 : decode cX1_init 0 = .ok (.aload_n 0, 1) := by decide +kernel
theorem dX1_init_1 : decode cX1_init 1 = .ok (.invokespecial 3, 3) := by decide +kernel
theorem dX1_init_4 : decode cX1_init 4 = .ok (.aload_n 0, 1) := by decide +kernel
theorem dX1_init_5 : decode cX1_init 5 = .ok (.iload_n 1, 1) := by decide +kernel
theorem dX1_init_6 : decode cX1_init 6 = .ok (.putfield 9, 3) := by decide +kernel
theorem dX1_init_9 : decode cX1_init 9 = .ok (.aload_n 0, 1) := by decide +kernel
theorem dX1_init_10 : decode cX1_init 10 = .ok (.iload_n 2, 1) := by decide +kernel
theorem dX1_init_11 : decode cX1_init 11 = .ok (.putfield 15, 3) := by decide +kernel
theorem dX1_init_14 : decode cX1_init 14 = .ok (.aload_n 0, 1) := by decide +kernel
theorem dX1_init_15 : decode cX1_init 15 = .ok (.iload_n 3, 1) := by decide +kernel
theorem dX1_init_16 : decode cX1_init 16 = .ok (.putfield 18, 3) := by decide +kernel
theorem dX1_init_19 : decode cX1_init 19 = .ok (.aload_n 0, 1) := by decide +kernel
theorem dX1_init_20 : decode cX1_init 20 = .ok (.iload_n 2, 1) := by decide +kernel
theorem dX1_init_21 : decode cX1_init 21 = .ok (.iload_n 3, 1) := by decide +kernel
theorem dX1_init_22 : decode cX1_init 22 = .ok (.invokestatic 21, 3) := by decide +kernel
theorem dX1_init_25 : decode cX1_init 25 = .ok (.putfield 25, 3) := by decide +kernel
theorem dX1_init_28 : decode cX1_init 28 = .ok (.aload_n 0, 1) := by decide +kernel
theorem dX1_init_29 : decode cX1_init 29 = .ok (.iload 4, 2) := by decide +kernel
theorem dX1_init_31 : decode cX1_init 31 = .ok (.newarray .int, 2) := by decide +kernel
theorem dX1_init_33 : decode cX1_init 33 = .ok (.putfield 29, 3) := by decide +kernel
theorem dX1_init_36 : decode cX1_init 36 = .ok (.aload_n 0, 1) := by decide +kernel
theorem dX1_init_37 : decode cX1_init 37 = .ok (.getfield 25, 3) := by decide +kernel
theorem dX1_init_40 : decode cX1_init 40 = .ok (.ifCond .ne 8, 3) := by decide +kernel
theorem dX1_init_43 : decode cX1_init 43 = .ok (.aload_n 0, 1) := by decide +kernel
theorem dX1_init_44 : decode cX1_init 44 = .ok (.iconst (-1), 1) := by decide +kernel
theorem dX1_init_45 : decode cX1_init 45 = .ok (.invokevirtual 33, 3) := by decide +kernel
theorem dX1_init_48 : decode cX1_init 48 = .ok (.return_, 1) := by decide +kernel
theorem dX1_fill_0 : decode cX1_fill 0 = .ok (.iconst 0, 1) := by decide +kernel
theorem dX1_fill_1 : decode cX1_fill 1 = .ok (.istore_n 2, 1) := by decide +kernel
theorem dX1_fill_2 : decode cX1_fill 2 = .ok (.iload_n 2, 1) := by decide +kernel
theorem dX1_fill_3 : decode cX1_fill 3 = .ok (.aload_n 0, 1) := by decide +kernel
theorem dX1_fill_4 : decode cX1_fill 4 = .ok (.getfield 29, 3) := by decide +kernel
theorem dX1_fill_7 : decode cX1_fill 7 = .ok (.arraylength, 1) := by decide +kernel
theorem dX1_fill_8 : decode cX1_fill 8 = .ok (.if_icmp .ge 16, 3) := by decide +kernel
theorem dX1_fill_11 : decode cX1_fill 11 = .ok (.aload_n 0, 1) := by decide +kernel
theorem dX1_fill_12 : decode cX1_fill 12 = .ok (.getfield 29, 3) := by decide +kernel
theorem dX1_fill_15 : decode cX1_fill 15 = .ok (.iload_n 2, 1) := by decide +kernel
theorem dX1_fill_16 : decode cX1_fill 16 = .ok (.iload_n 1, 1) := by decide +kernel
theorem dX1_fill_17 : decode cX1_fill 17 = .ok (.iastore, 1) := by decide +kernel
theorem dX1_fill_18 : decode cX1_fill 18 = .ok (.iinc 2 1, 3) := by decide +kernel
theorem dX1_fill_21 : decode cX1_fill 21 = .ok (.goto (-19), 3) := by decide +kernel
theorem dX1_fill_24 : decode cX1_fill 24 = .ok (.return_, 1) := by decide +kernel
theorem dX1_fits_0 : decode cX1_fits 0 = .ok (.aload_n 0, 1) := by decide +kernel
theorem dX1_fits_1 : decode cX1_fits 1 = .ok (.getfield 18, 3) := by decide +kernel
theorem dX1_fits_4 : decode cX1_fits 4 = .ok (.iload_n 2, 1) := by decide +kernel
theorem dX1_fits_5 : decode cX1_fits 5 = .ok (.if_icmp .ne 18, 3) := by decide +kernel
theorem dX1_fits_8 : decode cX1_fits 8 = .ok (.aload_n 0, 1) := by decide +kernel
theorem dX1_fits_9 : decode cX1_fits 9 = .ok (.getfield 15, 3) := by decide +kernel
theorem dX1_fits_12 : decode cX1_fits 12 = .ok (.iload_n 1, 1) := by decide +kernel
theorem dX1_fits_13 : decode cX1_fits 13 = .ok (.invokestatic 37, 3) := by decide +kernel
theorem dX1_fits_16 : decode cX1_fits 16 = .ok (.ifCond .eq 7, 3) := by decide +kernel
theorem dX1_fits_19 : decode cX1_fits 19 = .ok (.iconst 1, 1) := by decide +kernel
theorem dX1_fits_20 : decode cX1_fits 20 = .ok (.goto 4, 3) := by decide +kernel
theorem dX1_fits_23 : decode cX1_fits 23 = .ok (.iconst 0, 1) := by decide +kernel
theorem dX1_fits_24 : decode cX1_fits 24 = .ok (.ireturn, 1) := by decide +kernel
theorem dX1_holds_0 : decode cX1_holds 0 = .ok (.aload_n 1, 1) := by decide +kernel
theorem dX1_holds_1 : decode cX1_holds 1 = .ok (.ifnull 20, 3) := by decide +kernel
theorem dX1_holds_4 : decode cX1_holds 4 = .ok (.aload_n 1, 1) := by decide +kernel
theorem dX1_holds_5 : decode cX1_holds 5 = .ok (.aload_n 0, 1) := by decide +kernel
theorem dX1_holds_6 : decode cX1_holds 6 = .ok (.getfield 15, 3) := by decide +kernel
theorem dX1_holds_9 : decode cX1_holds 9 = .ok (.aload_n 0, 1) := by decide +kernel
theorem dX1_holds_10 : decode cX1_holds 10 = .ok (.getfield 18, 3) := by decide +kernel
theorem dX1_holds_13 : decode cX1_holds 13 = .ok (.iconst 1, 1) := by decide +kernel
theorem dX1_holds_14 : decode cX1_holds 14 = .ok (.isub, 1) := by decide +kernel
theorem dX1_holds_15 : decode cX1_holds 15 = .ok (.invokevirtual 40, 3) := by decide +kernel
theorem dX1_holds_18 : decode cX1_holds 18 = .ok (.ifCond .eq 7, 3) := by decide +kernel
theorem dX1_holds_21 : decode cX1_holds 21 = .ok (.iconst 1, 1) := by decide +kernel
theorem dX1_holds_22 : decode cX1_holds 22 = .ok (.goto 4, 3) := by decide +kernel
theorem dX1_holds_25 : decode cX1_holds 25 = .ok (.iconst 0, 1) := by decide +kernel
theorem dX1_holds_26 : decode cX1_holds 26 = .ok (.ireturn, 1) := by decide +kernel
theorem dX1_hasMessagePlace_0 : decode cX1_hasMessagePlace 0 = .ok (.aload_n 0, 1) := by decide +kernel
theorem dX1_hasMessagePlace_1 : decode cX1_hasMessagePlace 1 = .ok (.getfield 25, 3) := by decide +kernel
theorem dX1_hasMessagePlace_4 : decode cX1_hasMessagePlace 4 = .ok (.ifCond .ne 20, 3) := by decide +kernel
theorem dX1_hasMessagePlace_7 : decode cX1_hasMessagePlace 7 = .ok (.iload_n 1, 1) := by decide +kernel
theorem dX1_hasMessagePlace_8 : decode cX1_hasMessagePlace 8 = .ok (.ifCond .lt 16, 3) := by decide +kernel
theorem dX1_hasMessagePlace_11 : decode cX1_hasMessagePlace 11 = .ok (.iload_n 1, 1) := by decide +kernel
theorem dX1_hasMessagePlace_12 : decode cX1_hasMessagePlace 12 = .ok (.aload_n 0, 1) := by decide +kernel
theorem dX1_hasMessagePlace_13 : decode cX1_hasMessagePlace 13 = .ok (.getfield 29, 3) := by decide +kernel
theorem dX1_hasMessagePlace_16 : decode cX1_hasMessagePlace 16 = .ok (.arraylength, 1) := by decide +kernel
theorem dX1_hasMessagePlace_17 : decode cX1_hasMessagePlace 17 = .ok (.if_icmp .ge 7, 3) := by decide +kernel
theorem dX1_hasMessagePlace_20 : decode cX1_hasMessagePlace 20 = .ok (.iconst 1, 1) := by decide +kernel
theorem dX1_hasMessagePlace_21 : decode cX1_hasMessagePlace 21 = .ok (.goto 4, 3) := by decide +kernel
theorem dX1_hasMessagePlace_24 : decode cX1_hasMessagePlace 24 = .ok (.iconst 0, 1) := by decide +kernel
theorem dX1_hasMessagePlace_25 : decode cX1_hasMessagePlace 25 = .ok (.ireturn, 1) := by decide +kernel
theorem dX1_hasNumber_0 : decode cX1_hasNumber 0 = .ok (.aload_n 0, 1) := by decide +kernel
theorem dX1_hasNumber_1 : decode cX1_hasNumber 1 = .ok (.getfield 25, 3) := by decide +kernel
theorem dX1_hasNumber_4 : decode cX1_hasNumber 4 = .ok (.ifCond .eq 20, 3) := by decide +kernel
theorem dX1_hasNumber_7 : decode cX1_hasNumber 7 = .ok (.iload_n 1, 1) := by decide +kernel
theorem dX1_hasNumber_8 : decode cX1_hasNumber 8 = .ok (.ifCond .lt 16, 3) := by decide +kernel
theorem dX1_hasNumber_11 : decode cX1_hasNumber 11 = .ok (.iload_n 1, 1) := by decide +kernel
theorem dX1_hasNumber_12 : decode cX1_hasNumber 12 = .ok (.aload_n 0, 1) := by decide +kernel
theorem dX1_hasNumber_13 : decode cX1_hasNumber 13 = .ok (.getfield 29, 3) := by decide +kernel
theorem dX1_hasNumber_16 : decode cX1_hasNumber 16 = .ok (.arraylength, 1) := by decide +kernel
theorem dX1_hasNumber_17 : decode cX1_hasNumber 17 = .ok (.if_icmp .ge 7, 3) := by decide +kernel
theorem dX1_hasNumber_20 : decode cX1_hasNumber 20 = .ok (.iconst 1, 1) := by decide +kernel
theorem dX1_hasNumber_21 : decode cX1_hasNumber 21 = .ok (.goto 4, 3) := by decide +kernel
theorem dX1_hasNumber_24 : decode cX1_hasNumber 24 = .ok (.iconst 0, 1) := by decide +kernel
theorem dX1_hasNumber_25 : decode cX1_hasNumber 25 = .ok (.ireturn, 1) := by decide +kernel
theorem dX1_weight_0 : decode cX1_weight 0 = .ok (.aload_n 0, 1) := by decide +kernel
theorem dX1_weight_1 : decode cX1_weight 1 = .ok (.getfield 18, 3) := by decide +kernel
theorem dX1_weight_4 : decode cX1_weight 4 = .ok (.ifCond .ne 7, 3) := by decide +kernel
theorem dX1_weight_7 : decode cX1_weight 7 = .ok (.iconst 1, 1) := by decide +kernel
theorem dX1_weight_8 : decode cX1_weight 8 = .ok (.goto 8, 3) := by decide +kernel
theorem dX1_weight_11 : decode cX1_weight 11 = .ok (.aload_n 0, 1) := by decide +kernel
theorem dX1_weight_12 : decode cX1_weight 12 = .ok (.getfield 29, 3) := by decide +kernel
theorem dX1_weight_15 : decode cX1_weight 15 = .ok (.arraylength, 1) := by decide +kernel
theorem dX1_weight_16 : decode cX1_weight 16 = .ok (.ireturn, 1) := by decide +kernel
theorem dX1_lowestBits_0 : decode cX1_lowestBits 0 = .ok (.aload_n 0, 1) := by decide +kernel
theorem dX1_lowestBits_1 : decode cX1_lowestBits 1 = .ok (.getfield 15, 3) := by decide +kernel
theorem dX1_lowestBits_4 : decode cX1_lowestBits 4 = .ok (.iconst 4, 1) := by decide +kernel
theorem dX1_lowestBits_5 : decode cX1_lowestBits 5 = .ok (.if_icmp .ne 6, 3) := by decide +kernel
theorem dX1_lowestBits_8 : decode cX1_lowestBits 8 = .ok (.iload_n 1, 1) := by decide +kernel
theorem dX1_lowestBits_9 : decode cX1_lowestBits 9 = .ok (.i2b, 1) := by decide +kernel
theorem dX1_lowestBits_10 : decode cX1_lowestBits 10 = .ok (.ireturn, 1) := by decide +kernel
theorem dX1_lowestBits_11 : decode cX1_lowestBits 11 = .ok (.iload_n 1, 1) := by decide +kernel
theorem dX1_lowestBits_12 : decode cX1_lowestBits 12 = .ok (.i2c, 1) := by decide +kernel
theorem dX1_lowestBits_13 : decode cX1_lowestBits 13 = .ok (.ireturn, 1) := by decide +kernel
theorem dX2_init_0 : decode cX2_init 0 = .ok (.aload_n 0, 1) := by decide +kernel
theorem dX2_init_1 : decode cX2_init 1 = .ok (.invokespecial 1, 3) := by decide +kernel
theorem dX2_init_4 : decode cX2_init 4 = .ok (.aload_n 0, 1) := by decide +kernel
theorem dX2_init_5 : decode cX2_init 5 = .ok (.bipush 60, 2) := by decide +kernel
theorem dX2_init_7 : decode cX2_init 7 = .ok (.anewarray 9, 3) := by decide +kernel
theorem dX2_init_10 : decode cX2_init 10 = .ok (.putfield 11, 3) := by decide +kernel
theorem dX2_init_13 : decode cX2_init 13 = .ok (.aload_n 0, 1) := by decide +kernel
theorem dX2_init_14 : decode cX2_init 14 = .ok (.bipush 8, 2) := by decide +kernel
theorem dX2_init_16 : decode cX2_init 16 = .ok (.anewarray 15, 3) := by decide +kernel
theorem dX2_init_19 : decode cX2_init 19 = .ok (.putfield 17, 3) := by decide +kernel
theorem dX2_init_22 : decode cX2_init 22 = .ok (.aload_n 0, 1) := by decide +kernel
theorem dX2_init_23 : decode cX2_init 23 = .ok (.iconst (-1), 1) := by decide +kernel
theorem dX2_init_24 : decode cX2_init 24 = .ok (.putfield 21, 3) := by decide +kernel
theorem dX2_init_27 : decode cX2_init 27 = .ok (.return_, 1) := by decide +kernel
theorem dX2_slip_0 : decode cX2_slip 0 = .ok (.iload_n 1, 1) := by decide +kernel
theorem dX2_slip_1 : decode cX2_slip 1 = .ok (.ifCond .lt 8, 3) := by decide +kernel
theorem dX2_slip_4 : decode cX2_slip 4 = .ok (.iload_n 1, 1) := by decide +kernel
theorem dX2_slip_5 : decode cX2_slip 5 = .ok (.iconst 2, 1) := by decide +kernel
theorem dX2_slip_6 : decode cX2_slip 6 = .ok (.if_icmp .le 6, 3) := by decide +kernel
theorem dX2_slip_9 : decode cX2_slip 9 = .ok (.bipush (-2), 2) := by decide +kernel
theorem dX2_slip_11 : decode cX2_slip 11 = .ok (.ireturn, 1) := by decide +kernel
theorem dX2_slip_12 : decode cX2_slip 12 = .ok (.aload_n 0, 1) := by decide +kernel
theorem dX2_slip_13 : decode cX2_slip 13 = .ok (.iload_n 1, 1) := by decide +kernel
theorem dX2_slip_14 : decode cX2_slip 14 = .ok (.iconst 0, 1) := by decide +kernel
theorem dX2_slip_15 : decode cX2_slip 15 = .ok (.iconst 0, 1) := by decide +kernel
theorem dX2_slip_16 : decode cX2_slip 16 = .ok (.iload_n 2, 1) := by decide +kernel
theorem dX2_slip_17 : decode cX2_slip 17 = .ok (.invokevirtual 25, 3) := by decide +kernel
theorem dX2_slip_20 : decode cX2_slip 20 = .ok (.ireturn, 1) := by decide +kernel
theorem dX2_bundle_0 : decode cX2_bundle 0 = .ok (.iload_n 2, 1) := by decide +kernel
theorem dX2_bundle_1 : decode cX2_bundle 1 = .ok (.iconst 1, 1) := by decide +kernel
theorem dX2_bundle_2 : decode cX2_bundle 2 = .ok (.if_icmp .lt 17, 3) := by decide +kernel
theorem dX2_bundle_5 : decode cX2_bundle 5 = .ok (.iload_n 1, 1) := by decide +kernel
theorem dX2_bundle_6 : decode cX2_bundle 6 = .ok (.iload_n 2, 1) := by decide +kernel
theorem dX2_bundle_7 : decode cX2_bundle 7 = .ok (.invokestatic 29, 3) := by decide +kernel
theorem dX2_bundle_10 : decode cX2_bundle 10 = .ok (.ifCond .eq 9, 3) := by decide +kernel
theorem dX2_bundle_13 : decode cX2_bundle 13 = .ok (.iload_n 3, 1) := by decide +kernel
theorem dX2_bundle_14 : decode cX2_bundle 14 = .ok (.bipush 8, 2) := by decide +kernel
theorem dX2_bundle_16 : decode cX2_bundle 16 = .ok (.if_icmp .le 6, 3) := by decide +kernel
theorem dX2_bundle_19 : decode cX2_bundle 19 = .ok (.bipush (-2), 2) := by decide +kernel
theorem dX2_bundle_21 : decode cX2_bundle 21 = .ok (.ireturn, 1) := by decide +kernel
theorem dX2_bundle_22 : decode cX2_bundle 22 = .ok (.aload_n 0, 1) := by decide +kernel
theorem dX2_bundle_23 : decode cX2_bundle 23 = .ok (.iload_n 1, 1) := by decide +kernel
theorem dX2_bundle_24 : decode cX2_bundle 24 = .ok (.iload_n 2, 1) := by decide +kernel
theorem dX2_bundle_25 : decode cX2_bundle 25 = .ok (.iload_n 3, 1) := by decide +kernel
theorem dX2_bundle_26 : decode cX2_bundle 26 = .ok (.iconst 0, 1) := by decide +kernel
theorem dX2_bundle_27 : decode cX2_bundle 27 = .ok (.invokevirtual 25, 3) := by decide +kernel
theorem dX2_bundle_30 : decode cX2_bundle 30 = .ok (.ireturn, 1) := by decide +kernel
theorem dX2_place_0 : decode cX2_place 0 = .ok (.aload_n 0, 1) := by decide +kernel
theorem dX2_place_1 : decode cX2_place 1 = .ok (.iload_n 1, 1) := by decide +kernel
theorem dX2_place_2 : decode cX2_place 2 = .ok (.invokevirtual 33, 3) := by decide +kernel
theorem dX2_place_5 : decode cX2_place 5 = .ok (.astore 4, 2) := by decide +kernel
theorem dX2_place_7 : decode cX2_place 7 = .ok (.aload_n 0, 1) := by decide +kernel
theorem dX2_place_8 : decode cX2_place 8 = .ok (.iload_n 3, 1) := by decide +kernel
theorem dX2_place_9 : decode cX2_place 9 = .ok (.invokevirtual 33, 3) := by decide +kernel
theorem dX2_place_12 : decode cX2_place 12 = .ok (.astore 5, 2) := by decide +kernel
theorem dX2_place_14 : decode cX2_place 14 = .ok (.aload 4, 2) := by decide +kernel
theorem dX2_place_16 : decode cX2_place 16 = .ok (.ifnull 13, 3) := by decide +kernel
theorem dX2_place_19 : decode cX2_place 19 = .ok (.aload 5, 2) := by decide +kernel
theorem dX2_place_21 : decode cX2_place 21 = .ok (.ifnonnull 11, 3) := by decide +kernel
theorem dX2_place_24 : decode cX2_place 24 = .ok (.iload_n 3, 1) := by decide +kernel
theorem dX2_place_25 : decode cX2_place 25 = .ok (.iconst (-1), 1) := by decide +kernel
theorem dX2_place_26 : decode cX2_place 26 = .ok (.if_icmp .eq 6, 3) := by decide +kernel
theorem dX2_place_29 : decode cX2_place 29 = .ok (.bipush (-2), 2) := by decide +kernel
theorem dX2_place_31 : decode cX2_place 31 = .ok (.ireturn, 1) := by decide +kernel
theorem dX2_place_32 : decode cX2_place 32 = .ok (.aload 4, 2) := by decide +kernel
theorem dX2_place_34 : decode cX2_place 34 = .ok (.iload_n 2, 1) := by decide +kernel
theorem dX2_place_35 : decode cX2_place 35 = .ok (.invokevirtual 37, 3) := by decide +kernel
theorem dX2_place_38 : decode cX2_place 38 = .ok (.ifCond .eq 13, 3) := by decide +kernel
theorem dX2_place_41 : decode cX2_place 41 = .ok (.aload 4, 2) := by decide +kernel
theorem dX2_place_43 : decode cX2_place 43 = .ok (.aload 5, 2) := by decide +kernel
theorem dX2_place_45 : decode cX2_place 45 = .ok (.invokevirtual 41, 3) := by decide +kernel
theorem dX2_place_48 : decode cX2_place 48 = .ok (.ifCond .ne 6, 3) := by decide +kernel
theorem dX2_place_51 : decode cX2_place 51 = .ok (.bipush (-5), 2) := by decide +kernel
theorem dX2_place_53 : decode cX2_place 53 = .ok (.ireturn, 1) := by decide +kernel
theorem dX2_place_54 : decode cX2_place 54 = .ok (.aload 4, 2) := by decide +kernel
theorem dX2_place_56 : decode cX2_place 56 = .ok (.getfield 45, 3) := by decide +kernel
theorem dX2_place_59 : decode cX2_place 59 = .ok (.iload_n 2, 1) := by decide +kernel
theorem dX2_place_60 : decode cX2_place 60 = .ok (.iload_n 3, 1) := by decide +kernel
theorem dX2_place_61 : decode cX2_place 61 = .ok (.iastore, 1) := by decide +kernel
theorem dX2_place_62 : decode cX2_place 62 = .ok (.iconst 1, 1) := by decide +kernel
theorem dX2_place_63 : decode cX2_place 63 = .ok (.ireturn, 1) := by decide +kernel
theorem dX2_placed_0 : decode cX2_placed 0 = .ok (.aload_n 0, 1) := by decide +kernel
theorem dX2_placed_1 : decode cX2_placed 1 = .ok (.iload_n 1, 1) := by decide +kernel
theorem dX2_placed_2 : decode cX2_placed 2 = .ok (.invokevirtual 33, 3) := by decide +kernel
theorem dX2_placed_5 : decode cX2_placed 5 = .ok (.astore_n 3, 1) := by decide +kernel
theorem dX2_placed_6 : decode cX2_placed 6 = .ok (.aload_n 3, 1) := by decide +kernel
theorem dX2_placed_7 : decode cX2_placed 7 = .ok (.ifnonnull 6, 3) := by decide +kernel
theorem dX2_placed_10 : decode cX2_placed 10 = .ok (.bipush (-2), 2) := by decide +kernel
theorem dX2_placed_12 : decode cX2_placed 12 = .ok (.ireturn, 1) := by decide +kernel
theorem dX2_placed_13 : decode cX2_placed 13 = .ok (.aload_n 3, 1) := by decide +kernel
theorem dX2_placed_14 : decode cX2_placed 14 = .ok (.iload_n 2, 1) := by decide +kernel
theorem dX2_placed_15 : decode cX2_placed 15 = .ok (.invokevirtual 37, 3) := by decide +kernel
theorem dX2_placed_18 : decode cX2_placed 18 = .ok (.ifCond .eq 12, 3) := by decide +kernel
theorem dX2_placed_21 : decode cX2_placed 21 = .ok (.aload_n 3, 1) := by decide +kernel
theorem dX2_placed_22 : decode cX2_placed 22 = .ok (.getfield 45, 3) := by decide +kernel
theorem dX2_placed_25 : decode cX2_placed 25 = .ok (.iload_n 2, 1) := by decide +kernel
theorem dX2_placed_26 : decode cX2_placed 26 = .ok (.iaload, 1) := by decide +kernel
theorem dX2_placed_27 : decode cX2_placed 27 = .ok (.goto 5, 3) := by decide +kernel
theorem dX2_placed_30 : decode cX2_placed 30 = .ok (.bipush (-5), 2) := by decide +kernel
theorem dX2_placed_32 : decode cX2_placed 32 = .ok (.ireturn, 1) := by decide +kernel
theorem dX2_figure_0 : decode cX2_figure 0 = .ok (.aload_n 0, 1) := by decide +kernel
theorem dX2_figure_1 : decode cX2_figure 1 = .ok (.iload_n 1, 1) := by decide +kernel
theorem dX2_figure_2 : decode cX2_figure 2 = .ok (.invokevirtual 33, 3) := by decide +kernel
theorem dX2_figure_5 : decode cX2_figure 5 = .ok (.astore 4, 2) := by decide +kernel
theorem dX2_figure_7 : decode cX2_figure 7 = .ok (.aload 4, 2) := by decide +kernel
theorem dX2_figure_9 : decode cX2_figure 9 = .ok (.ifnonnull 6, 3) := by decide +kernel
theorem dX2_figure_12 : decode cX2_figure 12 = .ok (.bipush (-2), 2) := by decide +kernel
theorem dX2_figure_14 : decode cX2_figure 14 = .ok (.ireturn, 1) := by decide +kernel
theorem dX2_figure_15 : decode cX2_figure 15 = .ok (.aload 4, 2) := by decide +kernel
theorem dX2_figure_17 : decode cX2_figure 17 = .ok (.iload_n 2, 1) := by decide +kernel
theorem dX2_figure_18 : decode cX2_figure 18 = .ok (.invokevirtual 49, 3) := by decide +kernel
theorem dX2_figure_21 : decode cX2_figure 21 = .ok (.ifCond .ne 6, 3) := by decide +kernel
theorem dX2_figure_24 : decode cX2_figure 24 = .ok (.bipush (-5), 2) := by decide +kernel
theorem dX2_figure_26 : decode cX2_figure 26 = .ok (.ireturn, 1) := by decide +kernel
theorem dX2_figure_27 : decode cX2_figure 27 = .ok (.aload 4, 2) := by decide +kernel
theorem dX2_figure_29 : decode cX2_figure 29 = .ok (.getfield 45, 3) := by decide +kernel
theorem dX2_figure_32 : decode cX2_figure 32 = .ok (.iload_n 2, 1) := by decide +kernel
theorem dX2_figure_33 : decode cX2_figure 33 = .ok (.aload 4, 2) := by decide +kernel
theorem dX2_figure_35 : decode cX2_figure 35 = .ok (.iload_n 3, 1) := by decide +kernel
theorem dX2_figure_36 : decode cX2_figure 36 = .ok (.invokevirtual 52, 3) := by decide +kernel
theorem dX2_figure_39 : decode cX2_figure 39 = .ok (.iastore, 1) := by decide +kernel
theorem dX2_figure_40 : decode cX2_figure 40 = .ok (.iconst 1, 1) := by decide +kernel
theorem dX2_figure_41 : decode cX2_figure 41 = .ok (.ireturn, 1) := by decide +kernel
theorem dX2_number_0 : decode cX2_number 0 = .ok (.aload_n 0, 1) := by decide +kernel
theorem dX2_number_1 : decode cX2_number 1 = .ok (.iload_n 1, 1) := by decide +kernel
theorem dX2_number_2 : decode cX2_number 2 = .ok (.invokevirtual 33, 3) := by decide +kernel
theorem dX2_number_5 : decode cX2_number 5 = .ok (.astore_n 3, 1) := by decide +kernel
theorem dX2_number_6 : decode cX2_number 6 = .ok (.aload_n 3, 1) := by decide +kernel
theorem dX2_number_7 : decode cX2_number 7 = .ok (.ifnonnull 5, 3) := by decide +kernel
theorem dX2_number_10 : decode cX2_number 10 = .ok (.iconst 0, 1) := by decide +kernel
theorem dX2_number_11 : decode cX2_number 11 = .ok (.ireturn, 1) := by decide +kernel
theorem dX2_number_12 : decode cX2_number 12 = .ok (.aload_n 3, 1) := by decide +kernel
theorem dX2_number_13 : decode cX2_number 13 = .ok (.getfield 56, 3) := by decide +kernel
theorem dX2_number_16 : decode cX2_number 16 = .ok (.ifCond .ne 17, 3) := by decide +kernel
theorem dX2_number_19 : decode cX2_number 19 = .ok (.iload_n 2, 1) := by decide +kernel
theorem dX2_number_20 : decode cX2_number 20 = .ok (.iconst (-1), 1) := by decide +kernel
theorem dX2_number_21 : decode cX2_number 21 = .ok (.if_icmp .ne 10, 3) := by decide +kernel
theorem dX2_number_24 : decode cX2_number 24 = .ok (.aload_n 3, 1) := by decide +kernel
theorem dX2_number_25 : decode cX2_number 25 = .ok (.getfield 59, 3) := by decide +kernel
theorem dX2_number_28 : decode cX2_number 28 = .ok (.goto 4, 3) := by decide +kernel
theorem dX2_number_31 : decode cX2_number 31 = .ok (.iconst 0, 1) := by decide +kernel
theorem dX2_number_32 : decode cX2_number 32 = .ok (.ireturn, 1) := by decide +kernel
theorem dX2_number_33 : decode cX2_number 33 = .ok (.aload_n 3, 1) := by decide +kernel
theorem dX2_number_34 : decode cX2_number 34 = .ok (.iload_n 2, 1) := by decide +kernel
theorem dX2_number_35 : decode cX2_number 35 = .ok (.invokevirtual 49, 3) := by decide +kernel
theorem dX2_number_38 : decode cX2_number 38 = .ok (.ifCond .eq 12, 3) := by decide +kernel
theorem dX2_number_41 : decode cX2_number 41 = .ok (.aload_n 3, 1) := by decide +kernel
theorem dX2_number_42 : decode cX2_number 42 = .ok (.getfield 45, 3) := by decide +kernel
theorem dX2_number_45 : decode cX2_number 45 = .ok (.iload_n 2, 1) := by decide +kernel
theorem dX2_number_46 : decode cX2_number 46 = .ok (.iaload, 1) := by decide +kernel
theorem dX2_number_47 : decode cX2_number 47 = .ok (.goto 4, 3) := by decide +kernel
theorem dX2_number_50 : decode cX2_number 50 = .ok (.iconst 0, 1) := by decide +kernel
theorem dX2_number_51 : decode cX2_number 51 = .ok (.ireturn, 1) := by decide +kernel
theorem dX2_is_0 : decode cX2_is 0 = .ok (.aload_n 0, 1) := by decide +kernel
theorem dX2_is_1 : decode cX2_is 1 = .ok (.iload_n 1, 1) := by decide +kernel
theorem dX2_is_2 : decode cX2_is 2 = .ok (.invokevirtual 33, 3) := by decide +kernel
theorem dX2_is_5 : decode cX2_is 5 = .ok (.astore 4, 2) := by decide +kernel
theorem dX2_is_7 : decode cX2_is 7 = .ok (.aload 4, 2) := by decide +kernel
theorem dX2_is_9 : decode cX2_is 9 = .ok (.ifnull 11, 3) := by decide +kernel
theorem dX2_is_12 : decode cX2_is 12 = .ok (.iload_n 2, 1) := by decide +kernel
theorem dX2_is_13 : decode cX2_is 13 = .ok (.iload_n 3, 1) := by decide +kernel
theorem dX2_is_14 : decode cX2_is 14 = .ok (.invokestatic 29, 3) := by decide +kernel
theorem dX2_is_17 : decode cX2_is 17 = .ok (.ifCond .ne 6, 3) := by decide +kernel
theorem dX2_is_20 : decode cX2_is 20 = .ok (.bipush (-2), 2) := by decide +kernel
theorem dX2_is_22 : decode cX2_is 22 = .ok (.ireturn, 1) := by decide +kernel
theorem dX2_is_23 : decode cX2_is 23 = .ok (.aload 4, 2) := by decide +kernel
theorem dX2_is_25 : decode cX2_is 25 = .ok (.iload_n 2, 1) := by decide +kernel
theorem dX2_is_26 : decode cX2_is 26 = .ok (.iload_n 3, 1) := by decide +kernel
theorem dX2_is_27 : decode cX2_is 27 = .ok (.invokevirtual 62, 3) := by decide +kernel
theorem dX2_is_30 : decode cX2_is 30 = .ok (.invokestatic 65, 3) := by decide +kernel
theorem dX2_is_33 : decode cX2_is 33 = .ok (.ireturn, 1) := by decide +kernel
theorem dX2_about_0 : decode cX2_about 0 = .ok (.aload_n 0, 1) := by decide +kernel
theorem dX2_about_1 : decode cX2_about 1 = .ok (.iload_n 1, 1) := by decide +kernel
theorem dX2_about_2 : decode cX2_about 2 = .ok (.invokevirtual 33, 3) := by decide +kernel
theorem dX2_about_5 : decode cX2_about 5 = .ok (.astore_n 3, 1) := by decide +kernel
theorem dX2_about_6 : decode cX2_about 6 = .ok (.aload_n 3, 1) := by decide +kernel
theorem dX2_about_7 : decode cX2_about 7 = .ok (.ifnonnull 6, 3) := by decide +kernel
theorem dX2_about_10 : decode cX2_about 10 = .ok (.bipush (-2), 2) := by decide +kernel
theorem dX2_about_12 : decode cX2_about 12 = .ok (.ireturn, 1) := by decide +kernel
theorem dX2_about_13 : decode cX2_about 13 = .ok (.iload_n 2, 1) := by decide +kernel
theorem dX2_about_14 : decode cX2_about 14 = .ok (.tableswitch 42 0 2 #[26, 31, 36], 26) := by decide +kernel
theorem dX2_about_40 : decode cX2_about 40 = .ok (.aload_n 3, 1) := by decide +kernel
theorem dX2_about_41 : decode cX2_about 41 = .ok (.getfield 69, 3) := by decide +kernel
theorem dX2_about_44 : decode cX2_about 44 = .ok (.ireturn, 1) := by decide +kernel
theorem dX2_about_45 : decode cX2_about 45 = .ok (.aload_n 3, 1) := by decide +kernel
theorem dX2_about_46 : decode cX2_about 46 = .ok (.getfield 56, 3) := by decide +kernel
theorem dX2_about_49 : decode cX2_about 49 = .ok (.ireturn, 1) := by decide +kernel
theorem dX2_about_50 : decode cX2_about 50 = .ok (.aload_n 3, 1) := by decide +kernel
theorem dX2_about_51 : decode cX2_about 51 = .ok (.getfield 45, 3) := by decide +kernel
theorem dX2_about_54 : decode cX2_about 54 = .ok (.arraylength, 1) := by decide +kernel
theorem dX2_about_55 : decode cX2_about 55 = .ok (.ireturn, 1) := by decide +kernel
theorem dX2_about_56 : decode cX2_about 56 = .ok (.bipush (-2), 2) := by decide +kernel
theorem dX2_about_58 : decode cX2_about 58 = .ok (.ireturn, 1) := by decide +kernel
theorem dX2_counter_0 : decode cX2_counter 0 = .ok (.iload_n 1, 1) := by decide +kernel
theorem dX2_counter_1 : decode cX2_counter 1 = .ok (.ifCond .lt 27, 3) := by decide +kernel
theorem dX2_counter_4 : decode cX2_counter 4 = .ok (.iload_n 1, 1) := by decide +kernel
theorem dX2_counter_5 : decode cX2_counter 5 = .ok (.bipush 8, 2) := by decide +kernel
theorem dX2_counter_7 : decode cX2_counter 7 = .ok (.if_icmp .ge 21, 3) := by decide +kernel
theorem dX2_counter_10 : decode cX2_counter 10 = .ok (.iload_n 2, 1) := by decide +kernel
theorem dX2_counter_11 : decode cX2_counter 11 = .ok (.iload_n 3, 1) := by decide +kernel
theorem dX2_counter_12 : decode cX2_counter 12 = .ok (.invokestatic 29, 3) := by decide +kernel
theorem dX2_counter_15 : decode cX2_counter 15 = .ok (.ifCond .eq 13, 3) := by decide +kernel
theorem dX2_counter_18 : decode cX2_counter 18 = .ok (.iload 4, 2) := by decide +kernel
theorem dX2_counter_20 : decode cX2_counter 20 = .ok (.iload 5, 2) := by decide +kernel
theorem dX2_counter_22 : decode cX2_counter 22 = .ok (.invokestatic 29, 3) := by decide +kernel
theorem dX2_counter_25 : decode cX2_counter 25 = .ok (.ifCond .ne 6, 3) := by decide +kernel
theorem dX2_counter_28 : decode cX2_counter 28 = .ok (.bipush (-2), 2) := by decide +kernel
theorem dX2_counter_30 : decode cX2_counter 30 = .ok (.ireturn, 1) := by decide +kernel
theorem dX2_counter_31 : decode cX2_counter 31 = .ok (.aload_n 0, 1) := by decide +kernel
theorem dX2_counter_32 : decode cX2_counter 32 = .ok (.getfield 17, 3) := by decide +kernel
theorem dX2_counter_35 : decode cX2_counter 35 = .ok (.iload_n 1, 1) := by decide +kernel
theorem dX2_counter_36 : decode cX2_counter 36 = .ok (.aaload, 1) := by decide +kernel
theorem dX2_counter_37 : decode cX2_counter 37 = .ok (.astore 6, 2) := by decide +kernel
theorem dX2_counter_39 : decode cX2_counter 39 = .ok (.aload 6, 2) := by decide +kernel
theorem dX2_counter_41 : decode cX2_counter 41 = .ok (.ifnonnull 31, 3) := by decide +kernel
theorem dX2_counter_44 : decode cX2_counter 44 = .ok (.new 15, 3) := by decide +kernel
theorem dX2_counter_47 : decode cX2_counter 47 = .ok (.dup, 1) := by decide +kernel
theorem dX2_counter_48 : decode cX2_counter 48 = .ok (.iload_n 1, 1) := by decide +kernel
theorem dX2_counter_49 : decode cX2_counter 49 = .ok (.invokespecial 72, 3) := by decide +kernel
theorem dX2_counter_52 : decode cX2_counter 52 = .ok (.astore 6, 2) := by decide +kernel
theorem dX2_counter_54 : decode cX2_counter 54 = .ok (.aload_n 0, 1) := by decide +kernel
theorem dX2_counter_55 : decode cX2_counter 55 = .ok (.getfield 17, 3) := by decide +kernel
theorem dX2_counter_58 : decode cX2_counter 58 = .ok (.iload_n 1, 1) := by decide +kernel
theorem dX2_counter_59 : decode cX2_counter 59 = .ok (.aload 6, 2) := by decide +kernel
theorem dX2_counter_61 : decode cX2_counter 61 = .ok (.aastore, 1) := by decide +kernel
theorem dX2_counter_62 : decode cX2_counter 62 = .ok (.aload_n 0, 1) := by decide +kernel
theorem dX2_counter_63 : decode cX2_counter 63 = .ok (.dup, 1) := by decide +kernel
theorem dX2_counter_64 : decode cX2_counter 64 = .ok (.getfield 75, 3) := by decide +kernel
theorem dX2_counter_67 : decode cX2_counter 67 = .ok (.iconst 1, 1) := by decide +kernel
theorem dX2_counter_68 : decode cX2_counter 68 = .ok (.iadd, 1) := by decide +kernel
theorem dX2_counter_69 : decode cX2_counter 69 = .ok (.putfield 75, 3) := by decide +kernel
theorem dX2_counter_72 : decode cX2_counter 72 = .ok (.aload 6, 2) := by decide +kernel
theorem dX2_counter_74 : decode cX2_counter 74 = .ok (.iload_n 2, 1) := by decide +kernel
theorem dX2_counter_75 : decode cX2_counter 75 = .ok (.iload_n 3, 1) := by decide +kernel
theorem dX2_counter_76 : decode cX2_counter 76 = .ok (.iload 4, 2) := by decide +kernel
theorem dX2_counter_78 : decode cX2_counter 78 = .ok (.iload 5, 2) := by decide +kernel
theorem dX2_counter_80 : decode cX2_counter 80 = .ok (.invokevirtual 78, 3) := by decide +kernel
theorem dX2_counter_83 : decode cX2_counter 83 = .ok (.iconst 1, 1) := by decide +kernel
theorem dX2_counter_84 : decode cX2_counter 84 = .ok (.ireturn, 1) := by decide +kernel
theorem dX2_job_0 : decode cX2_job 0 = .ok (.aload_n 0, 1) := by decide +kernel
theorem dX2_job_1 : decode cX2_job 1 = .ok (.iload_n 1, 1) := by decide +kernel
theorem dX2_job_2 : decode cX2_job 2 = .ok (.invokevirtual 82, 3) := by decide +kernel
theorem dX2_job_5 : decode cX2_job 5 = .ok (.astore 6, 2) := by decide +kernel
theorem dX2_job_7 : decode cX2_job 7 = .ok (.aload 6, 2) := by decide +kernel
theorem dX2_job_9 : decode cX2_job 9 = .ok (.ifnull 12, 3) := by decide +kernel
theorem dX2_job_12 : decode cX2_job 12 = .ok (.aload 6, 2) := by decide +kernel
theorem dX2_job_14 : decode cX2_job 14 = .ok (.iload_n 2, 1) := by decide +kernel
theorem dX2_job_15 : decode cX2_job 15 = .ok (.invokevirtual 86, 3) := by decide +kernel
theorem dX2_job_18 : decode cX2_job 18 = .ok (.ifCond .ne 6, 3) := by decide +kernel
theorem dX2_job_21 : decode cX2_job 21 = .ok (.bipush (-2), 2) := by decide +kernel
theorem dX2_job_23 : decode cX2_job 23 = .ok (.ireturn, 1) := by decide +kernel
theorem dX2_job_24 : decode cX2_job 24 = .ok (.iload 4, 2) := by decide +kernel
theorem dX2_job_26 : decode cX2_job 26 = .ok (.iconst (-1), 1) := by decide +kernel
theorem dX2_job_27 : decode cX2_job 27 = .ok (.if_icmp .eq 12, 3) := by decide +kernel
theorem dX2_job_30 : decode cX2_job 30 = .ok (.aload_n 0, 1) := by decide +kernel
theorem dX2_job_31 : decode cX2_job 31 = .ok (.iload 4, 2) := by decide +kernel
theorem dX2_job_33 : decode cX2_job 33 = .ok (.invokevirtual 33, 3) := by decide +kernel
theorem dX2_job_36 : decode cX2_job 36 = .ok (.ifnull 14, 3) := by decide +kernel
theorem dX2_job_39 : decode cX2_job 39 = .ok (.iload 5, 2) := by decide +kernel
theorem dX2_job_41 : decode cX2_job 41 = .ok (.ifCond .lt 9, 3) := by decide +kernel
theorem dX2_job_44 : decode cX2_job 44 = .ok (.iload 5, 2) := by decide +kernel
theorem dX2_job_46 : decode cX2_job 46 = .ok (.iconst 1, 1) := by decide +kernel
theorem dX2_job_47 : decode cX2_job 47 = .ok (.if_icmp .le 6, 3) := by decide +kernel
theorem dX2_job_50 : decode cX2_job 50 = .ok (.bipush (-2), 2) := by decide +kernel
theorem dX2_job_52 : decode cX2_job 52 = .ok (.ireturn, 1) := by decide +kernel
theorem dX2_job_53 : decode cX2_job 53 = .ok (.aload 6, 2) := by decide +kernel
theorem dX2_job_55 : decode cX2_job 55 = .ok (.iload_n 2, 1) := by decide +kernel
theorem dX2_job_56 : decode cX2_job 56 = .ok (.putfield 89, 3) := by decide +kernel
theorem dX2_job_59 : decode cX2_job 59 = .ok (.aload 6, 2) := by decide +kernel
theorem dX2_job_61 : decode cX2_job 61 = .ok (.iload_n 3, 1) := by decide +kernel
theorem dX2_job_62 : decode cX2_job 62 = .ok (.putfield 92, 3) := by decide +kernel
theorem dX2_job_65 : decode cX2_job 65 = .ok (.aload 6, 2) := by decide +kernel
theorem dX2_job_67 : decode cX2_job 67 = .ok (.iload 4, 2) := by decide +kernel
theorem dX2_job_69 : decode cX2_job 69 = .ok (.putfield 95, 3) := by decide +kernel
theorem dX2_job_72 : decode cX2_job 72 = .ok (.aload 6, 2) := by decide +kernel
theorem dX2_job_74 : decode cX2_job 74 = .ok (.iload 5, 2) := by decide +kernel
theorem dX2_job_76 : decode cX2_job 76 = .ok (.iconst 1, 1) := by decide +kernel
theorem dX2_job_77 : decode cX2_job 77 = .ok (.if_icmp .ne 7, 3) := by decide +kernel
theorem dX2_job_80 : decode cX2_job 80 = .ok (.iconst 1, 1) := by decide +kernel
theorem dX2_job_81 : decode cX2_job 81 = .ok (.goto 4, 3) := by decide +kernel
theorem dX2_job_84 : decode cX2_job 84 = .ok (.iconst 0, 1) := by decide +kernel
theorem dX2_job_85 : decode cX2_job 85 = .ok (.putfield 98, 3) := by decide +kernel
theorem dX2_job_88 : decode cX2_job 88 = .ok (.iconst 1, 1) := by decide +kernel
theorem dX2_job_89 : decode cX2_job 89 = .ok (.ireturn, 1) := by decide +kernel
theorem dX2_shut_0 : decode cX2_shut 0 = .ok (.aload_n 0, 1) := by decide +kernel
theorem dX2_shut_1 : decode cX2_shut 1 = .ok (.iload_n 1, 1) := by decide +kernel
theorem dX2_shut_2 : decode cX2_shut 2 = .ok (.invokevirtual 82, 3) := by decide +kernel
theorem dX2_shut_5 : decode cX2_shut 5 = .ok (.astore_n 3, 1) := by decide +kernel
theorem dX2_shut_6 : decode cX2_shut 6 = .ok (.aload_n 3, 1) := by decide +kernel
theorem dX2_shut_7 : decode cX2_shut 7 = .ok (.ifnonnull 6, 3) := by decide +kernel
theorem dX2_shut_10 : decode cX2_shut 10 = .ok (.bipush (-2), 2) := by decide +kernel
theorem dX2_shut_12 : decode cX2_shut 12 = .ok (.ireturn, 1) := by decide +kernel
theorem dX2_shut_13 : decode cX2_shut 13 = .ok (.aload_n 3, 1) := by decide +kernel
theorem dX2_shut_14 : decode cX2_shut 14 = .ok (.getfield 102, 3) := by decide +kernel
theorem dX2_shut_17 : decode cX2_shut 17 = .ok (.invokestatic 65, 3) := by decide +kernel
theorem dX2_shut_20 : decode cX2_shut 20 = .ok (.istore 4, 2) := by decide +kernel
theorem dX2_shut_22 : decode cX2_shut 22 = .ok (.aload_n 3, 1) := by decide +kernel
theorem dX2_shut_23 : decode cX2_shut 23 = .ok (.iload_n 2, 1) := by decide +kernel
theorem dX2_shut_24 : decode cX2_shut 24 = .ok (.putfield 102, 3) := by decide +kernel
theorem dX2_shut_27 : decode cX2_shut 27 = .ok (.iload 4, 2) := by decide +kernel
theorem dX2_shut_29 : decode cX2_shut 29 = .ok (.ireturn, 1) := by decide +kernel
theorem dX2_send_0 : decode cX2_send 0 = .ok (.aload_n 0, 1) := by decide +kernel
theorem dX2_send_1 : decode cX2_send 1 = .ok (.iload_n 1, 1) := by decide +kernel
theorem dX2_send_2 : decode cX2_send 2 = .ok (.invokevirtual 33, 3) := by decide +kernel
theorem dX2_send_5 : decode cX2_send 5 = .ok (.astore_n 3, 1) := by decide +kernel
theorem dX2_send_6 : decode cX2_send 6 = .ok (.aload_n 3, 1) := by decide +kernel
theorem dX2_send_7 : decode cX2_send 7 = .ok (.ifnull 13, 3) := by decide +kernel
theorem dX2_send_10 : decode cX2_send 10 = .ok (.iload_n 2, 1) := by decide +kernel
theorem dX2_send_11 : decode cX2_send 11 = .ok (.ifCond .lt 9, 3) := by decide +kernel
theorem dX2_send_14 : decode cX2_send 14 = .ok (.iload_n 2, 1) := by decide +kernel
theorem dX2_send_15 : decode cX2_send 15 = .ok (.bipush 8, 2) := by decide +kernel
theorem dX2_send_17 : decode cX2_send 17 = .ok (.if_icmp .lt 6, 3) := by decide +kernel
theorem dX2_send_20 : decode cX2_send 20 = .ok (.bipush (-2), 2) := by decide +kernel
theorem dX2_send_22 : decode cX2_send 22 = .ok (.ireturn, 1) := by decide +kernel
theorem dX2_send_23 : decode cX2_send 23 = .ok (.aload_n 0, 1) := by decide +kernel
theorem dX2_send_24 : decode cX2_send 24 = .ok (.dup, 1) := by decide +kernel
theorem dX2_send_25 : decode cX2_send 25 = .ok (.getfield 105, 3) := by decide +kernel
theorem dX2_send_28 : decode cX2_send 28 = .ok (.iconst 1, 1) := by decide +kernel
theorem dX2_send_29 : decode cX2_send 29 = .ok (.iadd, 1) := by decide +kernel
theorem dX2_send_30 : decode cX2_send 30 = .ok (.putfield 105, 3) := by decide +kernel
theorem dX2_send_33 : decode cX2_send 33 = .ok (.aload_n 0, 1) := by decide +kernel
theorem dX2_send_34 : decode cX2_send 34 = .ok (.iconst 0, 1) := by decide +kernel
theorem dX2_send_35 : decode cX2_send 35 = .ok (.putfield 108, 3) := by decide +kernel
theorem dX2_send_38 : decode cX2_send 38 = .ok (.aload_n 0, 1) := by decide +kernel
theorem dX2_send_39 : decode cX2_send 39 = .ok (.iconst 0, 1) := by decide +kernel
theorem dX2_send_40 : decode cX2_send 40 = .ok (.putfield 111, 3) := by decide +kernel
theorem dX2_send_43 : decode cX2_send 43 = .ok (.aload_n 0, 1) := by decide +kernel
theorem dX2_send_44 : decode cX2_send 44 = .ok (.iconst 0, 1) := by decide +kernel
theorem dX2_send_45 : decode cX2_send 45 = .ok (.putfield 114, 3) := by decide +kernel
theorem dX2_send_48 : decode cX2_send 48 = .ok (.aload_n 0, 1) := by decide +kernel
theorem dX2_send_49 : decode cX2_send 49 = .ok (.iconst 0, 1) := by decide +kernel
theorem dX2_send_50 : decode cX2_send 50 = .ok (.putfield 117, 3) := by decide +kernel
theorem dX2_send_53 : decode cX2_send 53 = .ok (.aload_n 0, 1) := by decide +kernel
theorem dX2_send_54 : decode cX2_send 54 = .ok (.iconst (-1), 1) := by decide +kernel
theorem dX2_send_55 : decode cX2_send 55 = .ok (.putfield 21, 3) := by decide +kernel
theorem dX2_send_58 : decode cX2_send 58 = .ok (.aload_n 0, 1) := by decide +kernel
theorem dX2_send_59 : decode cX2_send 59 = .ok (.aload_n 3, 1) := by decide +kernel
theorem dX2_send_60 : decode cX2_send 60 = .ok (.iload_n 2, 1) := by decide +kernel
theorem dX2_send_61 : decode cX2_send 61 = .ok (.invokevirtual 120, 3) := by decide +kernel
theorem dX2_send_64 : decode cX2_send 64 = .ok (.ireturn, 1) := by decide +kernel
theorem dX2_told_0 : decode cX2_told 0 = .ok (.iload_n 1, 1) := by decide +kernel
theorem dX2_told_1 : decode cX2_told 1 = .ok (.tableswitch 60 0 4 #[35, 40, 45, 50, 55], 35) := by decide +kernel
theorem dX2_told_36 : decode cX2_told 36 = .ok (.aload_n 0, 1) := by decide +kernel
theorem dX2_told_37 : decode cX2_told 37 = .ok (.getfield 108, 3) := by decide +kernel
theorem dX2_told_40 : decode cX2_told 40 = .ok (.ireturn, 1) := by decide +kernel
theorem dX2_told_41 : decode cX2_told 41 = .ok (.aload_n 0, 1) := by decide +kernel
theorem dX2_told_42 : decode cX2_told 42 = .ok (.getfield 111, 3) := by decide +kernel
theorem dX2_told_45 : decode cX2_told 45 = .ok (.ireturn, 1) := by decide +kernel
theorem dX2_told_46 : decode cX2_told 46 = .ok (.aload_n 0, 1) := by decide +kernel
theorem dX2_told_47 : decode cX2_told 47 = .ok (.getfield 114, 3) := by decide +kernel
theorem dX2_told_50 : decode cX2_told 50 = .ok (.ireturn, 1) := by decide +kernel
theorem dX2_told_51 : decode cX2_told 51 = .ok (.aload_n 0, 1) := by decide +kernel
theorem dX2_told_52 : decode cX2_told 52 = .ok (.getfield 117, 3) := by decide +kernel
theorem dX2_told_55 : decode cX2_told 55 = .ok (.ireturn, 1) := by decide +kernel
theorem dX2_told_56 : decode cX2_told 56 = .ok (.aload_n 0, 1) := by decide +kernel
theorem dX2_told_57 : decode cX2_told 57 = .ok (.getfield 21, 3) := by decide +kernel
theorem dX2_told_60 : decode cX2_told 60 = .ok (.ireturn, 1) := by decide +kernel
theorem dX2_told_61 : decode cX2_told 61 = .ok (.bipush (-2), 2) := by decide +kernel
theorem dX2_told_63 : decode cX2_told 63 = .ok (.ireturn, 1) := by decide +kernel
theorem dX2_of_0 : decode cX2_of 0 = .ok (.aload_n 0, 1) := by decide +kernel
theorem dX2_of_1 : decode cX2_of 1 = .ok (.iload_n 1, 1) := by decide +kernel
theorem dX2_of_2 : decode cX2_of 2 = .ok (.invokevirtual 82, 3) := by decide +kernel
theorem dX2_of_5 : decode cX2_of 5 = .ok (.astore_n 3, 1) := by decide +kernel
theorem dX2_of_6 : decode cX2_of 6 = .ok (.aload_n 3, 1) := by decide +kernel
theorem dX2_of_7 : decode cX2_of 7 = .ok (.ifnonnull 5, 3) := by decide +kernel
theorem dX2_of_10 : decode cX2_of 10 = .ok (.iconst 0, 1) := by decide +kernel
theorem dX2_of_11 : decode cX2_of 11 = .ok (.ireturn, 1) := by decide +kernel
theorem dX2_of_12 : decode cX2_of 12 = .ok (.iload_n 2, 1) := by decide +kernel
theorem dX2_of_13 : decode cX2_of 13 = .ok (.tableswitch 84 0 6 #[43, 48, 53, 58, 66, 71, 76], 43) := by decide +kernel
theorem dX2_of_56 : decode cX2_of 56 = .ok (.aload_n 3, 1) := by decide +kernel
theorem dX2_of_57 : decode cX2_of 57 = .ok (.getfield 92, 3) := by decide +kernel
theorem dX2_of_60 : decode cX2_of 60 = .ok (.ireturn, 1) := by decide +kernel
theorem dX2_of_61 : decode cX2_of 61 = .ok (.aload_n 3, 1) := by decide +kernel
theorem dX2_of_62 : decode cX2_of 62 = .ok (.getfield 124, 3) := by decide +kernel
theorem dX2_of_65 : decode cX2_of 65 = .ok (.ireturn, 1) := by decide +kernel
theorem dX2_of_66 : decode cX2_of 66 = .ok (.aload_n 3, 1) := by decide +kernel
theorem dX2_of_67 : decode cX2_of 67 = .ok (.getfield 127, 3) := by decide +kernel
theorem dX2_of_70 : decode cX2_of 70 = .ok (.ireturn, 1) := by decide +kernel
theorem dX2_of_71 : decode cX2_of 71 = .ok (.aload_n 3, 1) := by decide +kernel
theorem dX2_of_72 : decode cX2_of 72 = .ok (.getfield 102, 3) := by decide +kernel
theorem dX2_of_75 : decode cX2_of 75 = .ok (.invokestatic 65, 3) := by decide +kernel
theorem dX2_of_78 : decode cX2_of 78 = .ok (.ireturn, 1) := by decide +kernel
theorem dX2_of_79 : decode cX2_of 79 = .ok (.aload_n 3, 1) := by decide +kernel
theorem dX2_of_80 : decode cX2_of 80 = .ok (.getfield 95, 3) := by decide +kernel
theorem dX2_of_83 : decode cX2_of 83 = .ok (.ireturn, 1) := by decide +kernel
theorem dX2_of_84 : decode cX2_of 84 = .ok (.aload_n 3, 1) := by decide +kernel
theorem dX2_of_85 : decode cX2_of 85 = .ok (.getfield 89, 3) := by decide +kernel
theorem dX2_of_88 : decode cX2_of 88 = .ok (.ireturn, 1) := by decide +kernel
theorem dX2_of_89 : decode cX2_of 89 = .ok (.aload_n 3, 1) := by decide +kernel
theorem dX2_of_90 : decode cX2_of 90 = .ok (.getfield 98, 3) := by decide +kernel
theorem dX2_of_93 : decode cX2_of 93 = .ok (.invokestatic 65, 3) := by decide +kernel
theorem dX2_of_96 : decode cX2_of 96 = .ok (.ireturn, 1) := by decide +kernel
theorem dX2_of_97 : decode cX2_of 97 = .ok (.iconst 0, 1) := by decide +kernel
theorem dX2_of_98 : decode cX2_of 98 = .ok (.ireturn, 1) := by decide +kernel
theorem dX2_count_0 : decode cX2_count 0 = .ok (.iload_n 1, 1) := by decide +kernel
theorem dX2_count_1 : decode cX2_count 1 = .ok (.tableswitch 42 0 2 #[27, 32, 37], 27) := by decide +kernel
theorem dX2_count_28 : decode cX2_count 28 = .ok (.aload_n 0, 1) := by decide +kernel
theorem dX2_count_29 : decode cX2_count 29 = .ok (.getfield 130, 3) := by decide +kernel
theorem dX2_count_32 : decode cX2_count 32 = .ok (.ireturn, 1) := by decide +kernel
theorem dX2_count_33 : decode cX2_count 33 = .ok (.aload_n 0, 1) := by decide +kernel
theorem dX2_count_34 : decode cX2_count 34 = .ok (.getfield 75, 3) := by decide +kernel
theorem dX2_count_37 : decode cX2_count 37 = .ok (.ireturn, 1) := by decide +kernel
theorem dX2_count_38 : decode cX2_count 38 = .ok (.aload_n 0, 1) := by decide +kernel
theorem dX2_count_39 : decode cX2_count 39 = .ok (.getfield 105, 3) := by decide +kernel
theorem dX2_count_42 : decode cX2_count 42 = .ok (.ireturn, 1) := by decide +kernel
theorem dX2_count_43 : decode cX2_count 43 = .ok (.bipush (-2), 2) := by decide +kernel
theorem dX2_count_45 : decode cX2_count 45 = .ok (.ireturn, 1) := by decide +kernel
theorem dX2_asInt_0 : decode cX2_asInt 0 = .ok (.iload_n 0, 1) := by decide +kernel
theorem dX2_asInt_1 : decode cX2_asInt 1 = .ok (.ifCond .eq 7, 3) := by decide +kernel
theorem dX2_asInt_4 : decode cX2_asInt 4 = .ok (.iconst 1, 1) := by decide +kernel
theorem dX2_asInt_5 : decode cX2_asInt 5 = .ok (.goto 4, 3) := by decide +kernel
theorem dX2_asInt_8 : decode cX2_asInt 8 = .ok (.iconst 0, 1) := by decide +kernel
theorem dX2_asInt_9 : decode cX2_asInt 9 = .ok (.ireturn, 1) := by decide +kernel
theorem dX2_passesFor_0 : decode cX2_passesFor 0 = .ok (.iload_n 0, 1) := by decide +kernel
theorem dX2_passesFor_1 : decode cX2_passesFor 1 = .ok (.iload_n 1, 1) := by decide +kernel
theorem dX2_passesFor_2 : decode cX2_passesFor 2 = .ok (.if_icmp .eq 27, 3) := by decide +kernel
theorem dX2_passesFor_5 : decode cX2_passesFor 5 = .ok (.iload_n 1, 1) := by decide +kernel
theorem dX2_passesFor_6 : decode cX2_passesFor 6 = .ok (.ifCond .ne 13, 3) := by decide +kernel
theorem dX2_passesFor_9 : decode cX2_passesFor 9 = .ok (.iload_n 0, 1) := by decide +kernel
theorem dX2_passesFor_10 : decode cX2_passesFor 10 = .ok (.iconst 1, 1) := by decide +kernel
theorem dX2_passesFor_11 : decode cX2_passesFor 11 = .ok (.if_icmp .eq 18, 3) := by decide +kernel
theorem dX2_passesFor_14 : decode cX2_passesFor 14 = .ok (.iload_n 0, 1) := by decide +kernel
theorem dX2_passesFor_15 : decode cX2_passesFor 15 = .ok (.iconst 2, 1) := by decide +kernel
theorem dX2_passesFor_16 : decode cX2_passesFor 16 = .ok (.if_icmp .eq 13, 3) := by decide +kernel
theorem dX2_passesFor_19 : decode cX2_passesFor 19 = .ok (.iload_n 1, 1) := by decide +kernel
theorem dX2_passesFor_20 : decode cX2_passesFor 20 = .ok (.iconst 3, 1) := by decide +kernel
theorem dX2_passesFor_21 : decode cX2_passesFor 21 = .ok (.if_icmp .ne 12, 3) := by decide +kernel
theorem dX2_passesFor_24 : decode cX2_passesFor 24 = .ok (.iload_n 0, 1) := by decide +kernel
theorem dX2_passesFor_25 : decode cX2_passesFor 25 = .ok (.iconst 2, 1) := by decide +kernel
theorem dX2_passesFor_26 : decode cX2_passesFor 26 = .ok (.if_icmp .ne 7, 3) := by decide +kernel
theorem dX2_passesFor_29 : decode cX2_passesFor 29 = .ok (.iconst 1, 1) := by decide +kernel
theorem dX2_passesFor_30 : decode cX2_passesFor 30 = .ok (.goto 4, 3) := by decide +kernel
theorem dX2_passesFor_33 : decode cX2_passesFor 33 = .ok (.iconst 0, 1) := by decide +kernel
theorem dX2_passesFor_34 : decode cX2_passesFor 34 = .ok (.ireturn, 1) := by decide +kernel
theorem dX2_isKind_0 : decode cX2_isKind 0 = .ok (.iload_n 0, 1) := by decide +kernel
theorem dX2_isKind_1 : decode cX2_isKind 1 = .ok (.iconst 4, 1) := by decide +kernel
theorem dX2_isKind_2 : decode cX2_isKind 2 = .ok (.if_icmp .lt 7, 3) := by decide +kernel
theorem dX2_isKind_5 : decode cX2_isKind 5 = .ok (.iconst 1, 1) := by decide +kernel
theorem dX2_isKind_6 : decode cX2_isKind 6 = .ok (.goto 4, 3) := by decide +kernel
theorem dX2_isKind_9 : decode cX2_isKind 9 = .ok (.iconst 0, 1) := by decide +kernel
theorem dX2_isKind_10 : decode cX2_isKind 10 = .ok (.istore_n 2, 1) := by decide +kernel
theorem dX2_isKind_11 : decode cX2_isKind 11 = .ok (.iload_n 0, 1) := by decide +kernel
theorem dX2_isKind_12 : decode cX2_isKind 12 = .ok (.ifCond .lt 22, 3) := by decide +kernel
theorem dX2_isKind_15 : decode cX2_isKind 15 = .ok (.iload_n 0, 1) := by decide +kernel
theorem dX2_isKind_16 : decode cX2_isKind 16 = .ok (.iconst 5, 1) := by decide +kernel
theorem dX2_isKind_17 : decode cX2_isKind 17 = .ok (.if_icmp .gt 17, 3) := by decide +kernel
theorem dX2_isKind_20 : decode cX2_isKind 20 = .ok (.iload_n 1, 1) := by decide +kernel
theorem dX2_isKind_21 : decode cX2_isKind 21 = .ok (.iload_n 2, 1) := by decide +kernel
theorem dX2_isKind_22 : decode cX2_isKind 22 = .ok (.if_icmp .lt 12, 3) := by decide +kernel
theorem dX2_isKind_25 : decode cX2_isKind 25 = .ok (.iload_n 1, 1) := by decide +kernel
theorem dX2_isKind_26 : decode cX2_isKind 26 = .ok (.iconst 3, 1) := by decide +kernel
theorem dX2_isKind_27 : decode cX2_isKind 27 = .ok (.if_icmp .gt 7, 3) := by decide +kernel
theorem dX2_isKind_30 : decode cX2_isKind 30 = .ok (.iconst 1, 1) := by decide +kernel
theorem dX2_isKind_31 : decode cX2_isKind 31 = .ok (.goto 4, 3) := by decide +kernel
theorem dX2_isKind_34 : decode cX2_isKind 34 = .ok (.iconst 0, 1) := by decide +kernel
theorem dX2_isKind_35 : decode cX2_isKind 35 = .ok (.ireturn, 1) := by decide +kernel
theorem dX2_isOfFigures_0 : decode cX2_isOfFigures 0 = .ok (.iload_n 0, 1) := by decide +kernel
theorem dX2_isOfFigures_1 : decode cX2_isOfFigures 1 = .ok (.iconst 4, 1) := by decide +kernel
theorem dX2_isOfFigures_2 : decode cX2_isOfFigures 2 = .ok (.if_icmp .lt 12, 3) := by decide +kernel
theorem dX2_isOfFigures_5 : decode cX2_isOfFigures 5 = .ok (.iload_n 1, 1) := by decide +kernel
theorem dX2_isOfFigures_6 : decode cX2_isOfFigures 6 = .ok (.iconst 1, 1) := by decide +kernel
theorem dX2_isOfFigures_7 : decode cX2_isOfFigures 7 = .ok (.if_icmp .ne 7, 3) := by decide +kernel
theorem dX2_isOfFigures_10 : decode cX2_isOfFigures 10 = .ok (.iconst 1, 1) := by decide +kernel
theorem dX2_isOfFigures_11 : decode cX2_isOfFigures 11 = .ok (.goto 4, 3) := by decide +kernel
theorem dX2_isOfFigures_14 : decode cX2_isOfFigures 14 = .ok (.iconst 0, 1) := by decide +kernel
theorem dX2_isOfFigures_15 : decode cX2_isOfFigures 15 = .ok (.ireturn, 1) := by decide +kernel
theorem dX2_enter_0 : decode cX2_enter 0 = .ok (.aload_n 0, 1) := by decide +kernel
theorem dX2_enter_1 : decode cX2_enter 1 = .ok (.getfield 130, 3) := by decide +kernel
theorem dX2_enter_4 : decode cX2_enter 4 = .ok (.bipush 60, 2) := by decide +kernel
theorem dX2_enter_6 : decode cX2_enter 6 = .ok (.if_icmp .lt 6, 3) := by decide +kernel
theorem dX2_enter_9 : decode cX2_enter 9 = .ok (.bipush (-3), 2) := by decide +kernel
theorem dX2_enter_11 : decode cX2_enter 11 = .ok (.ireturn, 1) := by decide +kernel
theorem dX2_enter_12 : decode cX2_enter 12 = .ok (.iload_n 3, 1) := by decide +kernel
theorem dX2_enter_13 : decode cX2_enter 13 = .ok (.ifCond .ge 6, 3) := by decide +kernel
theorem dX2_enter_16 : decode cX2_enter 16 = .ok (.bipush (-6), 2) := by decide +kernel
theorem dX2_enter_18 : decode cX2_enter 18 = .ok (.ireturn, 1) := by decide +kernel
theorem dX2_enter_19 : decode cX2_enter 19 = .ok (.new 9, 3) := by decide +kernel
theorem dX2_enter_22 : decode cX2_enter 22 = .ok (.dup, 1) := by decide +kernel
theorem dX2_enter_23 : decode cX2_enter 23 = .ok (.aload_n 0, 1) := by decide +kernel
theorem dX2_enter_24 : decode cX2_enter 24 = .ok (.getfield 130, 3) := by decide +kernel
theorem dX2_enter_27 : decode cX2_enter 27 = .ok (.iload_n 1, 1) := by decide +kernel
theorem dX2_enter_28 : decode cX2_enter 28 = .ok (.iload_n 2, 1) := by decide +kernel
theorem dX2_enter_29 : decode cX2_enter 29 = .ok (.iload_n 3, 1) := by decide +kernel
theorem dX2_enter_30 : decode cX2_enter 30 = .ok (.invokespecial 133, 3) := by decide +kernel
theorem dX2_enter_33 : decode cX2_enter 33 = .ok (.astore 5, 2) := by decide +kernel
theorem dX2_enter_35 : decode cX2_enter 35 = .ok (.aload 5, 2) := by decide +kernel
theorem dX2_enter_37 : decode cX2_enter 37 = .ok (.iload 4, 2) := by decide +kernel
theorem dX2_enter_39 : decode cX2_enter 39 = .ok (.putfield 59, 3) := by decide +kernel
theorem dX2_enter_42 : decode cX2_enter 42 = .ok (.aload_n 0, 1) := by decide +kernel
theorem dX2_enter_43 : decode cX2_enter 43 = .ok (.getfield 11, 3) := by decide +kernel
theorem dX2_enter_46 : decode cX2_enter 46 = .ok (.aload_n 0, 1) := by decide +kernel
theorem dX2_enter_47 : decode cX2_enter 47 = .ok (.getfield 130, 3) := by decide +kernel
theorem dX2_enter_50 : decode cX2_enter 50 = .ok (.aload 5, 2) := by decide +kernel
theorem dX2_enter_52 : decode cX2_enter 52 = .ok (.aastore, 1) := by decide +kernel
theorem dX2_enter_53 : decode cX2_enter 53 = .ok (.aload_n 0, 1) := by decide +kernel
theorem dX2_enter_54 : decode cX2_enter 54 = .ok (.dup, 1) := by decide +kernel
theorem dX2_enter_55 : decode cX2_enter 55 = .ok (.getfield 130, 3) := by decide +kernel
theorem dX2_enter_58 : decode cX2_enter 58 = .ok (.iconst 1, 1) := by decide +kernel
theorem dX2_enter_59 : decode cX2_enter 59 = .ok (.iadd, 1) := by decide +kernel
theorem dX2_enter_60 : decode cX2_enter 60 = .ok (.putfield 130, 3) := by decide +kernel
theorem dX2_enter_63 : decode cX2_enter 63 = .ok (.aload 5, 2) := by decide +kernel
theorem dX2_enter_65 : decode cX2_enter 65 = .ok (.getfield 135, 3) := by decide +kernel
theorem dX2_enter_68 : decode cX2_enter 68 = .ok (.ireturn, 1) := by decide +kernel
theorem dX2_messageAt_0 : decode cX2_messageAt 0 = .ok (.iload_n 1, 1) := by decide +kernel
theorem dX2_messageAt_1 : decode cX2_messageAt 1 = .ok (.ifCond .lt 18, 3) := by decide +kernel
theorem dX2_messageAt_4 : decode cX2_messageAt 4 = .ok (.iload_n 1, 1) := by decide +kernel
theorem dX2_messageAt_5 : decode cX2_messageAt 5 = .ok (.bipush 60, 2) := by decide +kernel
theorem dX2_messageAt_7 : decode cX2_messageAt 7 = .ok (.if_icmp .ge 12, 3) := by decide +kernel
theorem dX2_messageAt_10 : decode cX2_messageAt 10 = .ok (.aload_n 0, 1) := by decide +kernel
theorem dX2_messageAt_11 : decode cX2_messageAt 11 = .ok (.getfield 11, 3) := by decide +kernel
theorem dX2_messageAt_14 : decode cX2_messageAt 14 = .ok (.iload_n 1, 1) := by decide +kernel
theorem dX2_messageAt_15 : decode cX2_messageAt 15 = .ok (.aaload, 1) := by decide +kernel
theorem dX2_messageAt_16 : decode cX2_messageAt 16 = .ok (.goto 4, 3) := by decide +kernel
theorem dX2_messageAt_19 : decode cX2_messageAt 19 = .ok (.aconst_null, 1) := by decide +kernel
theorem dX2_messageAt_20 : decode cX2_messageAt 20 = .ok (.areturn, 1) := by decide +kernel
theorem dX2_counterAt_0 : decode cX2_counterAt 0 = .ok (.iload_n 1, 1) := by decide +kernel
theorem dX2_counterAt_1 : decode cX2_counterAt 1 = .ok (.ifCond .lt 18, 3) := by decide +kernel
theorem dX2_counterAt_4 : decode cX2_counterAt 4 = .ok (.iload_n 1, 1) := by decide +kernel
theorem dX2_counterAt_5 : decode cX2_counterAt 5 = .ok (.bipush 8, 2) := by decide +kernel
theorem dX2_counterAt_7 : decode cX2_counterAt 7 = .ok (.if_icmp .ge 12, 3) := by decide +kernel
theorem dX2_counterAt_10 : decode cX2_counterAt 10 = .ok (.aload_n 0, 1) := by decide +kernel
theorem dX2_counterAt_11 : decode cX2_counterAt 11 = .ok (.getfield 17, 3) := by decide +kernel
theorem dX2_counterAt_14 : decode cX2_counterAt 14 = .ok (.iload_n 1, 1) := by decide +kernel
theorem dX2_counterAt_15 : decode cX2_counterAt 15 = .ok (.aaload, 1) := by decide +kernel
theorem dX2_counterAt_16 : decode cX2_counterAt 16 = .ok (.goto 4, 3) := by decide +kernel
theorem dX2_counterAt_19 : decode cX2_counterAt 19 = .ok (.aconst_null, 1) := by decide +kernel
theorem dX2_counterAt_20 : decode cX2_counterAt 20 = .ok (.areturn, 1) := by decide +kernel
theorem dX2_carry_0 : decode cX2_carry 0 = .ok (.iload_n 2, 1) := by decide +kernel
theorem dX2_carry_1 : decode cX2_carry 1 = .ok (.istore_n 3, 1) := by decide +kernel
theorem dX2_carry_2 : decode cX2_carry 2 = .ok (.iload_n 3, 1) := by decide +kernel
theorem dX2_carry_3 : decode cX2_carry 3 = .ok (.bipush 8, 2) := by decide +kernel
theorem dX2_carry_5 : decode cX2_carry 5 = .ok (.if_icmp .ge 79, 3) := by decide +kernel
theorem dX2_carry_8 : decode cX2_carry 8 = .ok (.aload_n 0, 1) := by decide +kernel
theorem dX2_carry_9 : decode cX2_carry 9 = .ok (.iload_n 3, 1) := by decide +kernel
theorem dX2_carry_10 : decode cX2_carry 10 = .ok (.invokevirtual 82, 3) := by decide +kernel
theorem dX2_carry_13 : decode cX2_carry 13 = .ok (.astore 4, 2) := by decide +kernel
theorem dX2_carry_15 : decode cX2_carry 15 = .ok (.aload 4, 2) := by decide +kernel
theorem dX2_carry_17 : decode cX2_carry 17 = .ok (.ifnull 61, 3) := by decide +kernel
theorem dX2_carry_20 : decode cX2_carry 20 = .ok (.aload 4, 2) := by decide +kernel
theorem dX2_carry_22 : decode cX2_carry 22 = .ok (.aload_n 1, 1) := by decide +kernel
theorem dX2_carry_23 : decode cX2_carry 23 = .ok (.invokevirtual 136, 3) := by decide +kernel
theorem dX2_carry_26 : decode cX2_carry 26 = .ok (.ifCond .ne 6, 3) := by decide +kernel
theorem dX2_carry_29 : decode cX2_carry 29 = .ok (.goto 49, 3) := by decide +kernel
theorem dX2_carry_32 : decode cX2_carry 32 = .ok (.aload_n 0, 1) := by decide +kernel
theorem dX2_carry_33 : decode cX2_carry 33 = .ok (.aload 4, 2) := by decide +kernel
theorem dX2_carry_35 : decode cX2_carry 35 = .ok (.aload_n 1, 1) := by decide +kernel
theorem dX2_carry_36 : decode cX2_carry 36 = .ok (.invokevirtual 139, 3) := by decide +kernel
theorem dX2_carry_39 : decode cX2_carry 39 = .ok (.istore 5, 2) := by decide +kernel
theorem dX2_carry_41 : decode cX2_carry 41 = .ok (.iload 5, 2) := by decide +kernel
theorem dX2_carry_43 : decode cX2_carry 43 = .ok (.ifCond .ne 15, 3) := by decide +kernel
theorem dX2_carry_46 : decode cX2_carry 46 = .ok (.aload_n 0, 1) := by decide +kernel
theorem dX2_carry_47 : decode cX2_carry 47 = .ok (.dup, 1) := by decide +kernel
theorem dX2_carry_48 : decode cX2_carry 48 = .ok (.getfield 111, 3) := by decide +kernel
theorem dX2_carry_51 : decode cX2_carry 51 = .ok (.iconst 1, 1) := by decide +kernel
theorem dX2_carry_52 : decode cX2_carry 52 = .ok (.iadd, 1) := by decide +kernel
theorem dX2_carry_53 : decode cX2_carry 53 = .ok (.putfield 111, 3) := by decide +kernel
theorem dX2_carry_56 : decode cX2_carry 56 = .ok (.iload_n 3, 1) := by decide +kernel
theorem dX2_carry_57 : decode cX2_carry 57 = .ok (.ireturn, 1) := by decide +kernel
theorem dX2_carry_58 : decode cX2_carry 58 = .ok (.iload 5, 2) := by decide +kernel
theorem dX2_carry_60 : decode cX2_carry 60 = .ok (.iconst 5, 1) := by decide +kernel
theorem dX2_carry_61 : decode cX2_carry 61 = .ok (.if_icmp .eq 11, 3) := by decide +kernel
theorem dX2_carry_64 : decode cX2_carry 64 = .ok (.aload 4, 2) := by decide +kernel
theorem dX2_carry_66 : decode cX2_carry 66 = .ok (.getfield 98, 3) := by decide +kernel
theorem dX2_carry_69 : decode cX2_carry 69 = .ok (.ifCond .ne 9, 3) := by decide +kernel
theorem dX2_carry_72 : decode cX2_carry 72 = .ok (.bipush (-10), 2) := by decide +kernel
theorem dX2_carry_74 : decode cX2_carry 74 = .ok (.iload 5, 2) := by decide +kernel
theorem dX2_carry_76 : decode cX2_carry 76 = .ok (.isub, 1) := by decide +kernel
theorem dX2_carry_77 : decode cX2_carry 77 = .ok (.ireturn, 1) := by decide +kernel
theorem dX2_carry_78 : decode cX2_carry 78 = .ok (.iinc 3 1, 3) := by decide +kernel
theorem dX2_carry_81 : decode cX2_carry 81 = .ok (.goto (-79), 3) := by decide +kernel
theorem dX2_carry_84 : decode cX2_carry 84 = .ok (.aload_n 0, 1) := by decide +kernel
theorem dX2_carry_85 : decode cX2_carry 85 = .ok (.dup, 1) := by decide +kernel
theorem dX2_carry_86 : decode cX2_carry 86 = .ok (.getfield 114, 3) := by decide +kernel
theorem dX2_carry_89 : decode cX2_carry 89 = .ok (.iconst 1, 1) := by decide +kernel
theorem dX2_carry_90 : decode cX2_carry 90 = .ok (.iadd, 1) := by decide +kernel
theorem dX2_carry_91 : decode cX2_carry 91 = .ok (.putfield 114, 3) := by decide +kernel
theorem dX2_carry_94 : decode cX2_carry 94 = .ok (.bipush (-4), 2) := by decide +kernel
theorem dX2_carry_96 : decode cX2_carry 96 = .ok (.ireturn, 1) := by decide +kernel
theorem dX2_meet_0 : decode cX2_meet 0 = .ok (.aload_n 0, 1) := by decide +kernel
theorem dX2_meet_1 : decode cX2_meet 1 = .ok (.getfield 108, 3) := by decide +kernel
theorem dX2_meet_4 : decode cX2_meet 4 = .ok (.bipush 16, 2) := by decide +kernel
theorem dX2_meet_6 : decode cX2_meet 6 = .ok (.if_icmp .lt 5, 3) := by decide +kernel
theorem dX2_meet_9 : decode cX2_meet 9 = .ok (.iconst 5, 1) := by decide +kernel
theorem dX2_meet_10 : decode cX2_meet 10 = .ok (.ireturn, 1) := by decide +kernel
theorem dX2_meet_11 : decode cX2_meet 11 = .ok (.aload_n 0, 1) := by decide +kernel
theorem dX2_meet_12 : decode cX2_meet 12 = .ok (.dup, 1) := by decide +kernel
theorem dX2_meet_13 : decode cX2_meet 13 = .ok (.getfield 108, 3) := by decide +kernel
theorem dX2_meet_16 : decode cX2_meet 16 = .ok (.iconst 1, 1) := by decide +kernel
theorem dX2_meet_17 : decode cX2_meet 17 = .ok (.iadd, 1) := by decide +kernel
theorem dX2_meet_18 : decode cX2_meet 18 = .ok (.putfield 108, 3) := by decide +kernel
theorem dX2_meet_21 : decode cX2_meet 21 = .ok (.aload_n 1, 1) := by decide +kernel
theorem dX2_meet_22 : decode cX2_meet 22 = .ok (.aload_n 2, 1) := by decide +kernel
theorem dX2_meet_23 : decode cX2_meet 23 = .ok (.invokevirtual 143, 3) := by decide +kernel
theorem dX2_meet_26 : decode cX2_meet 26 = .ok (.ifCond .eq 12, 3) := by decide +kernel
theorem dX2_meet_29 : decode cX2_meet 29 = .ok (.aload_n 0, 1) := by decide +kernel
theorem dX2_meet_30 : decode cX2_meet 30 = .ok (.aload_n 1, 1) := by decide +kernel
theorem dX2_meet_31 : decode cX2_meet 31 = .ok (.aload_n 2, 1) := by decide +kernel
theorem dX2_meet_32 : decode cX2_meet 32 = .ok (.invokevirtual 146, 3) := by decide +kernel
theorem dX2_meet_35 : decode cX2_meet 35 = .ok (.goto 4, 3) := by decide +kernel
theorem dX2_meet_38 : decode cX2_meet 38 = .ok (.iconst 1, 1) := by decide +kernel
theorem dX2_meet_39 : decode cX2_meet 39 = .ok (.istore_n 3, 1) := by decide +kernel
theorem dX2_meet_40 : decode cX2_meet 40 = .ok (.aload_n 1, 1) := by decide +kernel
theorem dX2_meet_41 : decode cX2_meet 41 = .ok (.dup, 1) := by decide +kernel
theorem dX2_meet_42 : decode cX2_meet 42 = .ok (.getfield 124, 3) := by decide +kernel
theorem dX2_meet_45 : decode cX2_meet 45 = .ok (.iconst 1, 1) := by decide +kernel
theorem dX2_meet_46 : decode cX2_meet 46 = .ok (.iadd, 1) := by decide +kernel
theorem dX2_meet_47 : decode cX2_meet 47 = .ok (.putfield 124, 3) := by decide +kernel
theorem dX2_meet_50 : decode cX2_meet 50 = .ok (.iload_n 3, 1) := by decide +kernel
theorem dX2_meet_51 : decode cX2_meet 51 = .ok (.ifCond .eq 8, 3) := by decide +kernel
theorem dX2_meet_54 : decode cX2_meet 54 = .ok (.aload_n 0, 1) := by decide +kernel
theorem dX2_meet_55 : decode cX2_meet 55 = .ok (.aload_n 1, 1) := by decide +kernel
theorem dX2_meet_56 : decode cX2_meet 56 = .ok (.invokevirtual 149, 3) := by decide +kernel
theorem dX2_meet_59 : decode cX2_meet 59 = .ok (.iload_n 3, 1) := by decide +kernel
theorem dX2_meet_60 : decode cX2_meet 60 = .ok (.ireturn, 1) := by decide +kernel
theorem dX2_noteFall_0 : decode cX2_noteFall 0 = .ok (.aload_n 1, 1) := by decide +kernel
theorem dX2_noteFall_1 : decode cX2_noteFall 1 = .ok (.dup, 1) := by decide +kernel
theorem dX2_noteFall_2 : decode cX2_noteFall 2 = .ok (.getfield 127, 3) := by decide +kernel
theorem dX2_noteFall_5 : decode cX2_noteFall 5 = .ok (.iconst 1, 1) := by decide +kernel
theorem dX2_noteFall_6 : decode cX2_noteFall 6 = .ok (.iadd, 1) := by decide +kernel
theorem dX2_noteFall_7 : decode cX2_noteFall 7 = .ok (.putfield 127, 3) := by decide +kernel
theorem dX2_noteFall_10 : decode cX2_noteFall 10 = .ok (.aload_n 1, 1) := by decide +kernel
theorem dX2_noteFall_11 : decode cX2_noteFall 11 = .ok (.getfield 127, 3) := by decide +kernel
theorem dX2_noteFall_14 : decode cX2_noteFall 14 = .ok (.iconst 3, 1) := by decide +kernel
theorem dX2_noteFall_15 : decode cX2_noteFall 15 = .ok (.irem, 1) := by decide +kernel
theorem dX2_noteFall_16 : decode cX2_noteFall 16 = .ok (.ifCond .ne 8, 3) := by decide +kernel
theorem dX2_noteFall_19 : decode cX2_noteFall 19 = .ok (.aload_n 1, 1) := by decide +kernel
theorem dX2_noteFall_20 : decode cX2_noteFall 20 = .ok (.iconst 1, 1) := by decide +kernel
theorem dX2_noteFall_21 : decode cX2_noteFall 21 = .ok (.putfield 102, 3) := by decide +kernel
theorem dX2_noteFall_24 : decode cX2_noteFall 24 = .ok (.aload_n 0, 1) := by decide +kernel
theorem dX2_noteFall_25 : decode cX2_noteFall 25 = .ok (.dup, 1) := by decide +kernel
theorem dX2_noteFall_26 : decode cX2_noteFall 26 = .ok (.getfield 117, 3) := by decide +kernel
theorem dX2_noteFall_29 : decode cX2_noteFall 29 = .ok (.iconst 1, 1) := by decide +kernel
theorem dX2_noteFall_30 : decode cX2_noteFall 30 = .ok (.iadd, 1) := by decide +kernel
theorem dX2_noteFall_31 : decode cX2_noteFall 31 = .ok (.putfield 117, 3) := by decide +kernel
theorem dX2_noteFall_34 : decode cX2_noteFall 34 = .ok (.aload_n 0, 1) := by decide +kernel
theorem dX2_noteFall_35 : decode cX2_noteFall 35 = .ok (.getfield 21, 3) := by decide +kernel
theorem dX2_noteFall_38 : decode cX2_noteFall 38 = .ok (.iconst (-1), 1) := by decide +kernel
theorem dX2_noteFall_39 : decode cX2_noteFall 39 = .ok (.if_icmp .ne 11, 3) := by decide +kernel
theorem dX2_noteFall_42 : decode cX2_noteFall 42 = .ok (.aload_n 0, 1) := by decide +kernel
theorem dX2_noteFall_43 : decode cX2_noteFall 43 = .ok (.aload_n 1, 1) := by decide +kernel
theorem dX2_noteFall_44 : decode cX2_noteFall 44 = .ok (.getfield 153, 3) := by decide +kernel
theorem dX2_noteFall_47 : decode cX2_noteFall 47 = .ok (.putfield 21, 3) := by decide +kernel
theorem dX2_noteFall_50 : decode cX2_noteFall 50 = .ok (.return_, 1) := by decide +kernel
theorem dX2_work_0 : decode cX2_work 0 = .ok (.aload_n 1, 1) := by decide +kernel
theorem dX2_work_1 : decode cX2_work 1 = .ok (.getfield 89, 3) := by decide +kernel
theorem dX2_work_4 : decode cX2_work 4 = .ok (.tableswitch 78 0 4 #[36, 51, 57, 64, 71], 36) := by decide +kernel
theorem dX2_work_40 : decode cX2_work 40 = .ok (.aload_n 1, 1) := by decide +kernel
theorem dX2_work_41 : decode cX2_work 41 = .ok (.dup, 1) := by decide +kernel
theorem dX2_work_42 : decode cX2_work 42 = .ok (.getfield 92, 3) := by decide +kernel
theorem dX2_work_45 : decode cX2_work 45 = .ok (.aload_n 2, 1) := by decide +kernel
theorem dX2_work_46 : decode cX2_work 46 = .ok (.invokevirtual 156, 3) := by decide +kernel
theorem dX2_work_49 : decode cX2_work 49 = .ok (.iadd, 1) := by decide +kernel
theorem dX2_work_50 : decode cX2_work 50 = .ok (.putfield 92, 3) := by decide +kernel
theorem dX2_work_53 : decode cX2_work 53 = .ok (.iconst 0, 1) := by decide +kernel
theorem dX2_work_54 : decode cX2_work 54 = .ok (.ireturn, 1) := by decide +kernel
theorem dX2_work_55 : decode cX2_work 55 = .ok (.aload_n 1, 1) := by decide +kernel
theorem dX2_work_56 : decode cX2_work 56 = .ok (.aload_n 2, 1) := by decide +kernel
theorem dX2_work_57 : decode cX2_work 57 = .ok (.invokestatic 160, 3) := by decide +kernel
theorem dX2_work_60 : decode cX2_work 60 = .ok (.ireturn, 1) := by decide +kernel
theorem dX2_work_61 : decode cX2_work 61 = .ok (.aload_n 0, 1) := by decide +kernel
theorem dX2_work_62 : decode cX2_work 62 = .ok (.aload_n 1, 1) := by decide +kernel
theorem dX2_work_63 : decode cX2_work 63 = .ok (.aload_n 2, 1) := by decide +kernel
theorem dX2_work_64 : decode cX2_work 64 = .ok (.invokevirtual 163, 3) := by decide +kernel
theorem dX2_work_67 : decode cX2_work 67 = .ok (.ireturn, 1) := by decide +kernel
theorem dX2_work_68 : decode cX2_work 68 = .ok (.aload_n 0, 1) := by decide +kernel
theorem dX2_work_69 : decode cX2_work 69 = .ok (.aload_n 1, 1) := by decide +kernel
theorem dX2_work_70 : decode cX2_work 70 = .ok (.aload_n 2, 1) := by decide +kernel
theorem dX2_work_71 : decode cX2_work 71 = .ok (.invokevirtual 166, 3) := by decide +kernel
theorem dX2_work_74 : decode cX2_work 74 = .ok (.ireturn, 1) := by decide +kernel
theorem dX2_work_75 : decode cX2_work 75 = .ok (.aload_n 0, 1) := by decide +kernel
theorem dX2_work_76 : decode cX2_work 76 = .ok (.aload_n 1, 1) := by decide +kernel
theorem dX2_work_77 : decode cX2_work 77 = .ok (.aload_n 2, 1) := by decide +kernel
theorem dX2_work_78 : decode cX2_work 78 = .ok (.invokevirtual 169, 3) := by decide +kernel
theorem dX2_work_81 : decode cX2_work 81 = .ok (.ireturn, 1) := by decide +kernel
theorem dX2_work_82 : decode cX2_work 82 = .ok (.aload_n 1, 1) := by decide +kernel
theorem dX2_work_83 : decode cX2_work 83 = .ok (.aload_n 2, 1) := by decide +kernel
theorem dX2_work_84 : decode cX2_work 84 = .ok (.getfield 135, 3) := by decide +kernel
theorem dX2_work_87 : decode cX2_work 87 = .ok (.putfield 95, 3) := by decide +kernel
theorem dX2_work_90 : decode cX2_work 90 = .ok (.iconst 0, 1) := by decide +kernel
theorem dX2_work_91 : decode cX2_work 91 = .ok (.ireturn, 1) := by decide +kernel
theorem dX2_mark_0 : decode cX2_mark 0 = .ok (.aload_n 1, 1) := by decide +kernel
theorem dX2_mark_1 : decode cX2_mark 1 = .ok (.getfield 56, 3) := by decide +kernel
theorem dX2_mark_4 : decode cX2_mark 4 = .ok (.ifCond .ne 14, 3) := by decide +kernel
theorem dX2_mark_7 : decode cX2_mark 7 = .ok (.aload_n 1, 1) := by decide +kernel
theorem dX2_mark_8 : decode cX2_mark 8 = .ok (.aload_n 0, 1) := by decide +kernel
theorem dX2_mark_9 : decode cX2_mark 9 = .ok (.aload_n 1, 1) := by decide +kernel
theorem dX2_mark_10 : decode cX2_mark 10 = .ok (.invokestatic 172, 3) := by decide +kernel
theorem dX2_mark_13 : decode cX2_mark 13 = .ok (.putfield 59, 3) := by decide +kernel
theorem dX2_mark_16 : decode cX2_mark 16 = .ok (.iconst 0, 1) := by decide +kernel
theorem dX2_mark_17 : decode cX2_mark 17 = .ok (.ireturn, 1) := by decide +kernel
theorem dX2_mark_18 : decode cX2_mark 18 = .ok (.aload_n 1, 1) := by decide +kernel
theorem dX2_mark_19 : decode cX2_mark 19 = .ok (.getfield 175, 3) := by decide +kernel
theorem dX2_mark_22 : decode cX2_mark 22 = .ok (.ifCond .eq 17, 3) := by decide +kernel
theorem dX2_mark_25 : decode cX2_mark 25 = .ok (.aload_n 1, 1) := by decide +kernel
theorem dX2_mark_26 : decode cX2_mark 26 = .ok (.aload_n 1, 1) := by decide +kernel
theorem dX2_mark_27 : decode cX2_mark 27 = .ok (.aload_n 0, 1) := by decide +kernel
theorem dX2_mark_28 : decode cX2_mark 28 = .ok (.getfield 92, 3) := by decide +kernel
theorem dX2_mark_31 : decode cX2_mark 31 = .ok (.invokevirtual 52, 3) := by decide +kernel
theorem dX2_mark_34 : decode cX2_mark 34 = .ok (.invokevirtual 178, 3) := by decide +kernel
theorem dX2_mark_37 : decode cX2_mark 37 = .ok (.iconst 0, 1) := by decide +kernel
theorem dX2_mark_38 : decode cX2_mark 38 = .ok (.ireturn, 1) := by decide +kernel
theorem dX2_mark_39 : decode cX2_mark 39 = .ok (.aload_n 1, 1) := by decide +kernel
theorem dX2_mark_40 : decode cX2_mark 40 = .ok (.iconst 0, 1) := by decide +kernel
theorem dX2_mark_41 : decode cX2_mark 41 = .ok (.invokevirtual 37, 3) := by decide +kernel
theorem dX2_mark_44 : decode cX2_mark 44 = .ok (.ifCond .ne 5, 3) := by decide +kernel
theorem dX2_mark_47 : decode cX2_mark 47 = .ok (.iconst 2, 1) := by decide +kernel
theorem dX2_mark_48 : decode cX2_mark 48 = .ok (.ireturn, 1) := by decide +kernel
theorem dX2_mark_49 : decode cX2_mark 49 = .ok (.aload_n 1, 1) := by decide +kernel
theorem dX2_mark_50 : decode cX2_mark 50 = .ok (.getfield 45, 3) := by decide +kernel
theorem dX2_mark_53 : decode cX2_mark 53 = .ok (.iconst 0, 1) := by decide +kernel
theorem dX2_mark_54 : decode cX2_mark 54 = .ok (.iconst (-1), 1) := by decide +kernel
theorem dX2_mark_55 : decode cX2_mark 55 = .ok (.iastore, 1) := by decide +kernel
theorem dX2_mark_56 : decode cX2_mark 56 = .ok (.iconst 0, 1) := by decide +kernel
theorem dX2_mark_57 : decode cX2_mark 57 = .ok (.ireturn, 1) := by decide +kernel
theorem dX2_markedStamp_0 : decode cX2_markedStamp 0 = .ok (.aload_n 0, 1) := by decide +kernel
theorem dX2_markedStamp_1 : decode cX2_markedStamp 1 = .ok (.getfield 181, 3) := by decide +kernel
theorem dX2_markedStamp_4 : decode cX2_markedStamp 4 = .ok (.iconst 3, 1) := by decide +kernel
theorem dX2_markedStamp_5 : decode cX2_markedStamp 5 = .ok (.if_icmp .ne 13, 3) := by decide +kernel
theorem dX2_markedStamp_8 : decode cX2_markedStamp 8 = .ok (.aload_n 1, 1) := by decide +kernel
theorem dX2_markedStamp_9 : decode cX2_markedStamp 9 = .ok (.getfield 59, 3) := by decide +kernel
theorem dX2_markedStamp_12 : decode cX2_markedStamp 12 = .ok (.aload_n 0, 1) := by decide +kernel
theorem dX2_markedStamp_13 : decode cX2_markedStamp 13 = .ok (.getfield 92, 3) := by decide +kernel
theorem dX2_markedStamp_16 : decode cX2_markedStamp 16 = .ok (.isub, 1) := by decide +kernel
theorem dX2_markedStamp_17 : decode cX2_markedStamp 17 = .ok (.ireturn, 1) := by decide +kernel
theorem dX2_markedStamp_18 : decode cX2_markedStamp 18 = .ok (.aload_n 1, 1) := by decide +kernel
theorem dX2_markedStamp_19 : decode cX2_markedStamp 19 = .ok (.getfield 69, 3) := by decide +kernel
theorem dX2_markedStamp_22 : decode cX2_markedStamp 22 = .ok (.iconst 1, 1) := by decide +kernel
theorem dX2_markedStamp_23 : decode cX2_markedStamp 23 = .ok (.if_icmp .ne 12, 3) := by decide +kernel
theorem dX2_markedStamp_26 : decode cX2_markedStamp 26 = .ok (.iconst 2, 1) := by decide +kernel
theorem dX2_markedStamp_27 : decode cX2_markedStamp 27 = .ok (.aload_n 0, 1) := by decide +kernel
theorem dX2_markedStamp_28 : decode cX2_markedStamp 28 = .ok (.getfield 92, 3) := by decide +kernel
theorem dX2_markedStamp_31 : decode cX2_markedStamp 31 = .ok (.imul, 1) := by decide +kernel
theorem dX2_markedStamp_32 : decode cX2_markedStamp 32 = .ok (.goto 7, 3) := by decide +kernel
theorem dX2_markedStamp_35 : decode cX2_markedStamp 35 = .ok (.aload_n 0, 1) := by decide +kernel
theorem dX2_markedStamp_36 : decode cX2_markedStamp 36 = .ok (.getfield 92, 3) := by decide +kernel
theorem dX2_markedStamp_39 : decode cX2_markedStamp 39 = .ok (.ireturn, 1) := by decide +kernel
theorem dX2_lay_0 : decode cX2_lay 0 = .ok (.aload_n 0, 1) := by decide +kernel
theorem dX2_lay_1 : decode cX2_lay 1 = .ok (.aload_n 1, 1) := by decide +kernel
theorem dX2_lay_2 : decode cX2_lay 2 = .ok (.getfield 95, 3) := by decide +kernel
theorem dX2_lay_5 : decode cX2_lay 5 = .ok (.invokevirtual 33, 3) := by decide +kernel
theorem dX2_lay_8 : decode cX2_lay 8 = .ok (.astore_n 3, 1) := by decide +kernel
theorem dX2_lay_9 : decode cX2_lay 9 = .ok (.aload_n 3, 1) := by decide +kernel
theorem dX2_lay_10 : decode cX2_lay 10 = .ok (.ifnull 22, 3) := by decide +kernel
theorem dX2_lay_13 : decode cX2_lay 13 = .ok (.aload_n 3, 1) := by decide +kernel
theorem dX2_lay_14 : decode cX2_lay 14 = .ok (.aload_n 1, 1) := by decide +kernel
theorem dX2_lay_15 : decode cX2_lay 15 = .ok (.getfield 181, 3) := by decide +kernel
theorem dX2_lay_18 : decode cX2_lay 18 = .ok (.aload_n 1, 1) := by decide +kernel
theorem dX2_lay_19 : decode cX2_lay 19 = .ok (.getfield 184, 3) := by decide +kernel
theorem dX2_lay_22 : decode cX2_lay 22 = .ok (.iconst 1, 1) := by decide +kernel
theorem dX2_lay_23 : decode cX2_lay 23 = .ok (.isub, 1) := by decide +kernel
theorem dX2_lay_24 : decode cX2_lay 24 = .ok (.invokevirtual 62, 3) := by decide +kernel
theorem dX2_lay_27 : decode cX2_lay 27 = .ok (.ifCond .ne 5, 3) := by decide +kernel
theorem dX2_lay_30 : decode cX2_lay 30 = .ok (.iconst 1, 1) := by decide +kernel
theorem dX2_lay_31 : decode cX2_lay 31 = .ok (.ireturn, 1) := by decide +kernel
theorem dX2_lay_32 : decode cX2_lay 32 = .ok (.aload_n 2, 1) := by decide +kernel
theorem dX2_lay_33 : decode cX2_lay 33 = .ok (.aload_n 1, 1) := by decide +kernel
theorem dX2_lay_34 : decode cX2_lay 34 = .ok (.getfield 92, 3) := by decide +kernel
theorem dX2_lay_37 : decode cX2_lay 37 = .ok (.invokevirtual 37, 3) := by decide +kernel
theorem dX2_lay_40 : decode cX2_lay 40 = .ok (.ifCond .ne 5, 3) := by decide +kernel
theorem dX2_lay_43 : decode cX2_lay 43 = .ok (.iconst 2, 1) := by decide +kernel
theorem dX2_lay_44 : decode cX2_lay 44 = .ok (.ireturn, 1) := by decide +kernel
theorem dX2_lay_45 : decode cX2_lay 45 = .ok (.aload_n 2, 1) := by decide +kernel
theorem dX2_lay_46 : decode cX2_lay 46 = .ok (.aload_n 3, 1) := by decide +kernel
theorem dX2_lay_47 : decode cX2_lay 47 = .ok (.invokevirtual 41, 3) := by decide +kernel
theorem dX2_lay_50 : decode cX2_lay 50 = .ok (.ifCond .ne 5, 3) := by decide +kernel
theorem dX2_lay_53 : decode cX2_lay 53 = .ok (.iconst 3, 1) := by decide +kernel
theorem dX2_lay_54 : decode cX2_lay 54 = .ok (.ireturn, 1) := by decide +kernel
theorem dX2_lay_55 : decode cX2_lay 55 = .ok (.aload_n 2, 1) := by decide +kernel
theorem dX2_lay_56 : decode cX2_lay 56 = .ok (.getfield 45, 3) := by decide +kernel
theorem dX2_lay_59 : decode cX2_lay 59 = .ok (.aload_n 1, 1) := by decide +kernel
theorem dX2_lay_60 : decode cX2_lay 60 = .ok (.getfield 92, 3) := by decide +kernel
theorem dX2_lay_63 : decode cX2_lay 63 = .ok (.aload_n 1, 1) := by decide +kernel
theorem dX2_lay_64 : decode cX2_lay 64 = .ok (.getfield 95, 3) := by decide +kernel
theorem dX2_lay_67 : decode cX2_lay 67 = .ok (.iastore, 1) := by decide +kernel
theorem dX2_lay_68 : decode cX2_lay 68 = .ok (.iconst 0, 1) := by decide +kernel
theorem dX2_lay_69 : decode cX2_lay 69 = .ok (.ireturn, 1) := by decide +kernel
theorem dX2_open_0 : decode cX2_open 0 = .ok (.aload_n 2, 1) := by decide +kernel
theorem dX2_open_1 : decode cX2_open 1 = .ok (.aload_n 1, 1) := by decide +kernel
theorem dX2_open_2 : decode cX2_open 2 = .ok (.getfield 92, 3) := by decide +kernel
theorem dX2_open_5 : decode cX2_open 5 = .ok (.invokevirtual 37, 3) := by decide +kernel
theorem dX2_open_8 : decode cX2_open 8 = .ok (.ifCond .ne 5, 3) := by decide +kernel
theorem dX2_open_11 : decode cX2_open 11 = .ok (.iconst 2, 1) := by decide +kernel
theorem dX2_open_12 : decode cX2_open 12 = .ok (.ireturn, 1) := by decide +kernel
theorem dX2_open_13 : decode cX2_open 13 = .ok (.aload_n 0, 1) := by decide +kernel
theorem dX2_open_14 : decode cX2_open 14 = .ok (.aload_n 2, 1) := by decide +kernel
theorem dX2_open_15 : decode cX2_open 15 = .ok (.getfield 45, 3) := by decide +kernel
theorem dX2_open_18 : decode cX2_open 18 = .ok (.aload_n 1, 1) := by decide +kernel
theorem dX2_open_19 : decode cX2_open 19 = .ok (.getfield 92, 3) := by decide +kernel
theorem dX2_open_22 : decode cX2_open 22 = .ok (.iaload, 1) := by decide +kernel
theorem dX2_open_23 : decode cX2_open 23 = .ok (.invokevirtual 33, 3) := by decide +kernel
theorem dX2_open_26 : decode cX2_open 26 = .ok (.astore_n 3, 1) := by decide +kernel
theorem dX2_open_27 : decode cX2_open 27 = .ok (.aload_n 3, 1) := by decide +kernel
theorem dX2_open_28 : decode cX2_open 28 = .ok (.ifnonnull 5, 3) := by decide +kernel
theorem dX2_open_31 : decode cX2_open 31 = .ok (.iconst 4, 1) := by decide +kernel
theorem dX2_open_32 : decode cX2_open 32 = .ok (.ireturn, 1) := by decide +kernel
theorem dX2_open_33 : decode cX2_open 33 = .ok (.aload_n 0, 1) := by decide +kernel
theorem dX2_open_34 : decode cX2_open 34 = .ok (.aload_n 3, 1) := by decide +kernel
theorem dX2_open_35 : decode cX2_open 35 = .ok (.aload_n 1, 1) := by decide +kernel
theorem dX2_open_36 : decode cX2_open 36 = .ok (.getfield 153, 3) := by decide +kernel
theorem dX2_open_39 : decode cX2_open 39 = .ok (.iconst 1, 1) := by decide +kernel
theorem dX2_open_40 : decode cX2_open 40 = .ok (.iadd, 1) := by decide +kernel
theorem dX2_open_41 : decode cX2_open 41 = .ok (.invokevirtual 120, 3) := by decide +kernel
theorem dX2_open_44 : decode cX2_open 44 = .ok (.invokestatic 187, 3) := by decide +kernel
theorem dX2_open_47 : decode cX2_open 47 = .ok (.ireturn, 1) := by decide +kernel
theorem dX2_spread_0 : decode cX2_spread 0 = .ok (.iconst 0, 1) := by decide +kernel
theorem dX2_spread_1 : decode cX2_spread 1 = .ok (.istore_n 3, 1) := by decide +kernel
theorem dX2_spread_2 : decode cX2_spread 2 = .ok (.iload_n 3, 1) := by decide +kernel
theorem dX2_spread_3 : decode cX2_spread 3 = .ok (.aload_n 2, 1) := by decide +kernel
theorem dX2_spread_4 : decode cX2_spread 4 = .ok (.getfield 45, 3) := by decide +kernel
theorem dX2_spread_7 : decode cX2_spread 7 = .ok (.arraylength, 1) := by decide +kernel
theorem dX2_spread_8 : decode cX2_spread 8 = .ok (.if_icmp .ge 54, 3) := by decide +kernel
theorem dX2_spread_11 : decode cX2_spread 11 = .ok (.aload_n 0, 1) := by decide +kernel
theorem dX2_spread_12 : decode cX2_spread 12 = .ok (.aload_n 2, 1) := by decide +kernel
theorem dX2_spread_13 : decode cX2_spread 13 = .ok (.getfield 45, 3) := by decide +kernel
theorem dX2_spread_16 : decode cX2_spread 16 = .ok (.iload_n 3, 1) := by decide +kernel
theorem dX2_spread_17 : decode cX2_spread 17 = .ok (.iaload, 1) := by decide +kernel
theorem dX2_spread_18 : decode cX2_spread 18 = .ok (.invokevirtual 33, 3) := by decide +kernel
theorem dX2_spread_21 : decode cX2_spread 21 = .ok (.astore 4, 2) := by decide +kernel
theorem dX2_spread_23 : decode cX2_spread 23 = .ok (.aload 4, 2) := by decide +kernel
theorem dX2_spread_25 : decode cX2_spread 25 = .ok (.ifnonnull 6, 3) := by decide +kernel
theorem dX2_spread_28 : decode cX2_spread 28 = .ok (.goto 28, 3) := by decide +kernel
theorem dX2_spread_31 : decode cX2_spread 31 = .ok (.aload_n 0, 1) := by decide +kernel
theorem dX2_spread_32 : decode cX2_spread 32 = .ok (.aload 4, 2) := by decide +kernel
theorem dX2_spread_34 : decode cX2_spread 34 = .ok (.aload_n 1, 1) := by decide +kernel
theorem dX2_spread_35 : decode cX2_spread 35 = .ok (.getfield 153, 3) := by decide +kernel
theorem dX2_spread_38 : decode cX2_spread 38 = .ok (.iconst 1, 1) := by decide +kernel
theorem dX2_spread_39 : decode cX2_spread 39 = .ok (.iadd, 1) := by decide +kernel
theorem dX2_spread_40 : decode cX2_spread 40 = .ok (.invokevirtual 120, 3) := by decide +kernel
theorem dX2_spread_43 : decode cX2_spread 43 = .ok (.invokestatic 187, 3) := by decide +kernel
theorem dX2_spread_46 : decode cX2_spread 46 = .ok (.istore 5, 2) := by decide +kernel
theorem dX2_spread_48 : decode cX2_spread 48 = .ok (.iload 5, 2) := by decide +kernel
theorem dX2_spread_50 : decode cX2_spread 50 = .ok (.ifCond .eq 6, 3) := by decide +kernel
theorem dX2_spread_53 : decode cX2_spread 53 = .ok (.iload 5, 2) := by decide +kernel
theorem dX2_spread_55 : decode cX2_spread 55 = .ok (.ireturn, 1) := by decide +kernel
theorem dX2_spread_56 : decode cX2_spread 56 = .ok (.iinc 3 1, 3) := by decide +kernel
theorem dX2_spread_59 : decode cX2_spread 59 = .ok (.goto (-57), 3) := by decide +kernel
theorem dX2_spread_62 : decode cX2_spread 62 = .ok (.iconst 0, 1) := by decide +kernel
theorem dX2_spread_63 : decode cX2_spread 63 = .ok (.ireturn, 1) := by decide +kernel
theorem dX2_failureOf_0 : decode cX2_failureOf 0 = .ok (.iload_n 0, 1) := by decide +kernel
theorem dX2_failureOf_1 : decode cX2_failureOf 1 = .ok (.bipush (-10), 2) := by decide +kernel
theorem dX2_failureOf_3 : decode cX2_failureOf 3 = .ok (.if_icmp .ge 10, 3) := by decide +kernel
theorem dX2_failureOf_6 : decode cX2_failureOf 6 = .ok (.bipush (-10), 2) := by decide +kernel
theorem dX2_failureOf_8 : decode cX2_failureOf 8 = .ok (.iload_n 0, 1) := by decide +kernel
theorem dX2_failureOf_9 : decode cX2_failureOf 9 = .ok (.isub, 1) := by decide +kernel
theorem dX2_failureOf_10 : decode cX2_failureOf 10 = .ok (.goto 4, 3) := by decide +kernel
theorem dX2_failureOf_13 : decode cX2_failureOf 13 = .ok (.iconst 0, 1) := by decide +kernel
theorem dX2_failureOf_14 : decode cX2_failureOf 14 = .ok (.ireturn, 1) := by decide +kernel
theorem dX3_init_0 : decode cX3_init 0 = .ok (.aload_n 0, 1) := by decide +kernel
theorem dX3_init_1 : decode cX3_init 1 = .ok (.invokespecial 1, 3) := by decide +kernel
theorem dX3_init_4 : decode cX3_init 4 = .ok (.aload_n 0, 1) := by decide +kernel
theorem dX3_init_5 : decode cX3_init 5 = .ok (.bipush 60, 2) := by decide +kernel
theorem dX3_init_7 : decode cX3_init 7 = .ok (.newarray .int, 2) := by decide +kernel
theorem dX3_init_9 : decode cX3_init 9 = .ok (.putfield 7, 3) := by decide +kernel
theorem dX3_init_12 : decode cX3_init 12 = .ok (.aload_n 0, 1) := by decide +kernel
theorem dX3_init_13 : decode cX3_init 13 = .ok (.bipush 60, 2) := by decide +kernel
theorem dX3_init_15 : decode cX3_init 15 = .ok (.newarray .int, 2) := by decide +kernel
theorem dX3_init_17 : decode cX3_init 17 = .ok (.putfield 13, 3) := by decide +kernel
theorem dX3_init_20 : decode cX3_init 20 = .ok (.aload_n 0, 1) := by decide +kernel
theorem dX3_init_21 : decode cX3_init 21 = .ok (.bipush 60, 2) := by decide +kernel
theorem dX3_init_23 : decode cX3_init 23 = .ok (.newarray .int, 2) := by decide +kernel
theorem dX3_init_25 : decode cX3_init 25 = .ok (.putfield 16, 3) := by decide +kernel
theorem dX3_init_28 : decode cX3_init 28 = .ok (.aload_n 0, 1) := by decide +kernel
theorem dX3_init_29 : decode cX3_init 29 = .ok (.bipush 60, 2) := by decide +kernel
theorem dX3_init_31 : decode cX3_init 31 = .ok (.newarray .int, 2) := by decide +kernel
theorem dX3_init_33 : decode cX3_init 33 = .ok (.putfield 19, 3) := by decide +kernel
theorem dX3_init_36 : decode cX3_init 36 = .ok (.aload_n 0, 1) := by decide +kernel
theorem dX3_init_37 : decode cX3_init 37 = .ok (.sipush 480, 3) := by decide +kernel
theorem dX3_init_40 : decode cX3_init 40 = .ok (.newarray .int, 2) := by decide +kernel
theorem dX3_init_42 : decode cX3_init 42 = .ok (.putfield 22, 3) := by decide +kernel
theorem dX3_init_45 : decode cX3_init 45 = .ok (.aload_n 0, 1) := by decide +kernel
theorem dX3_init_46 : decode cX3_init 46 = .ok (.bipush 8, 2) := by decide +kernel
theorem dX3_init_48 : decode cX3_init 48 = .ok (.newarray .boolean, 2) := by decide +kernel
theorem dX3_init_50 : decode cX3_init 50 = .ok (.putfield 25, 3) := by decide +kernel
theorem dX3_init_53 : decode cX3_init 53 = .ok (.aload_n 0, 1) := by decide +kernel
theorem dX3_init_54 : decode cX3_init 54 = .ok (.bipush 8, 2) := by decide +kernel
theorem dX3_init_56 : decode cX3_init 56 = .ok (.newarray .boolean, 2) := by decide +kernel
theorem dX3_init_58 : decode cX3_init 58 = .ok (.putfield 29, 3) := by decide +kernel
theorem dX3_init_61 : decode cX3_init 61 = .ok (.aload_n 0, 1) := by decide +kernel
theorem dX3_init_62 : decode cX3_init 62 = .ok (.bipush 8, 2) := by decide +kernel
theorem dX3_init_64 : decode cX3_init 64 = .ok (.newarray .boolean, 2) := by decide +kernel
theorem dX3_init_66 : decode cX3_init 66 = .ok (.putfield 32, 3) := by decide +kernel
theorem dX3_init_69 : decode cX3_init 69 = .ok (.aload_n 0, 1) := by decide +kernel
theorem dX3_init_70 : decode cX3_init 70 = .ok (.bipush 8, 2) := by decide +kernel
theorem dX3_init_72 : decode cX3_init 72 = .ok (.newarray .int, 2) := by decide +kernel
theorem dX3_init_74 : decode cX3_init 74 = .ok (.putfield 35, 3) := by decide +kernel
theorem dX3_init_77 : decode cX3_init 77 = .ok (.aload_n 0, 1) := by decide +kernel
theorem dX3_init_78 : decode cX3_init 78 = .ok (.bipush 8, 2) := by decide +kernel
theorem dX3_init_80 : decode cX3_init 80 = .ok (.newarray .int, 2) := by decide +kernel
theorem dX3_init_82 : decode cX3_init 82 = .ok (.putfield 38, 3) := by decide +kernel
theorem dX3_init_85 : decode cX3_init 85 = .ok (.aload_n 0, 1) := by decide +kernel
theorem dX3_init_86 : decode cX3_init 86 = .ok (.bipush 8, 2) := by decide +kernel
theorem dX3_init_88 : decode cX3_init 88 = .ok (.newarray .int, 2) := by decide +kernel
theorem dX3_init_90 : decode cX3_init 90 = .ok (.putfield 41, 3) := by decide +kernel
theorem dX3_init_93 : decode cX3_init 93 = .ok (.aload_n 0, 1) := by decide +kernel
theorem dX3_init_94 : decode cX3_init 94 = .ok (.bipush 8, 2) := by decide +kernel
theorem dX3_init_96 : decode cX3_init 96 = .ok (.newarray .int, 2) := by decide +kernel
theorem dX3_init_98 : decode cX3_init 98 = .ok (.putfield 44, 3) := by decide +kernel
theorem dX3_init_101 : decode cX3_init 101 = .ok (.aload_n 0, 1) := by decide +kernel
theorem dX3_init_102 : decode cX3_init 102 = .ok (.bipush 8, 2) := by decide +kernel
theorem dX3_init_104 : decode cX3_init 104 = .ok (.newarray .int, 2) := by decide +kernel
theorem dX3_init_106 : decode cX3_init 106 = .ok (.putfield 47, 3) := by decide +kernel
theorem dX3_init_109 : decode cX3_init 109 = .ok (.aload_n 0, 1) := by decide +kernel
theorem dX3_init_110 : decode cX3_init 110 = .ok (.bipush 8, 2) := by decide +kernel
theorem dX3_init_112 : decode cX3_init 112 = .ok (.newarray .int, 2) := by decide +kernel
theorem dX3_init_114 : decode cX3_init 114 = .ok (.putfield 50, 3) := by decide +kernel
theorem dX3_init_117 : decode cX3_init 117 = .ok (.aload_n 0, 1) := by decide +kernel
theorem dX3_init_118 : decode cX3_init 118 = .ok (.bipush 8, 2) := by decide +kernel
theorem dX3_init_120 : decode cX3_init 120 = .ok (.newarray .int, 2) := by decide +kernel
theorem dX3_init_122 : decode cX3_init 122 = .ok (.putfield 53, 3) := by decide +kernel
theorem dX3_init_125 : decode cX3_init 125 = .ok (.aload_n 0, 1) := by decide +kernel
theorem dX3_init_126 : decode cX3_init 126 = .ok (.bipush 8, 2) := by decide +kernel
theorem dX3_init_128 : decode cX3_init 128 = .ok (.newarray .int, 2) := by decide +kernel
theorem dX3_init_130 : decode cX3_init 130 = .ok (.putfield 56, 3) := by decide +kernel
theorem dX3_init_133 : decode cX3_init 133 = .ok (.aload_n 0, 1) := by decide +kernel
theorem dX3_init_134 : decode cX3_init 134 = .ok (.bipush 8, 2) := by decide +kernel
theorem dX3_init_136 : decode cX3_init 136 = .ok (.newarray .int, 2) := by decide +kernel
theorem dX3_init_138 : decode cX3_init 138 = .ok (.putfield 59, 3) := by decide +kernel
theorem dX3_init_141 : decode cX3_init 141 = .ok (.aload_n 0, 1) := by decide +kernel
theorem dX3_init_142 : decode cX3_init 142 = .ok (.bipush 40, 2) := by decide +kernel
theorem dX3_init_144 : decode cX3_init 144 = .ok (.newarray .int, 2) := by decide +kernel
theorem dX3_init_146 : decode cX3_init 146 = .ok (.putfield 62, 3) := by decide +kernel
theorem dX3_init_149 : decode cX3_init 149 = .ok (.aload_n 0, 1) := by decide +kernel
theorem dX3_init_150 : decode cX3_init 150 = .ok (.bipush 40, 2) := by decide +kernel
theorem dX3_init_152 : decode cX3_init 152 = .ok (.newarray .int, 2) := by decide +kernel
theorem dX3_init_154 : decode cX3_init 154 = .ok (.putfield 65, 3) := by decide +kernel
theorem dX3_init_157 : decode cX3_init 157 = .ok (.aload_n 0, 1) := by decide +kernel
theorem dX3_init_158 : decode cX3_init 158 = .ok (.bipush 40, 2) := by decide +kernel
theorem dX3_init_160 : decode cX3_init 160 = .ok (.newarray .int, 2) := by decide +kernel
theorem dX3_init_162 : decode cX3_init 162 = .ok (.putfield 68, 3) := by decide +kernel
theorem dX3_init_165 : decode cX3_init 165 = .ok (.aload_n 0, 1) := by decide +kernel
theorem dX3_init_166 : decode cX3_init 166 = .ok (.bipush 40, 2) := by decide +kernel
theorem dX3_init_168 : decode cX3_init 168 = .ok (.newarray .int, 2) := by decide +kernel
theorem dX3_init_170 : decode cX3_init 170 = .ok (.putfield 71, 3) := by decide +kernel
theorem dX3_init_173 : decode cX3_init 173 = .ok (.return_, 1) := by decide +kernel
theorem dX3_in_0 : decode cX3_in 0 = .ok (.iload_n 0, 1) := by decide +kernel
theorem dX3_in_1 : decode cX3_in 1 = .ok (.iload_n 1, 1) := by decide +kernel
theorem dX3_in_2 : decode cX3_in 2 = .ok (.if_icmp .lt 12, 3) := by decide +kernel
theorem dX3_in_5 : decode cX3_in 5 = .ok (.iload_n 0, 1) := by decide +kernel
theorem dX3_in_6 : decode cX3_in 6 = .ok (.iload_n 2, 1) := by decide +kernel
theorem dX3_in_7 : decode cX3_in 7 = .ok (.if_icmp .gt 7, 3) := by decide +kernel
theorem dX3_in_10 : decode cX3_in 10 = .ok (.iconst 1, 1) := by decide +kernel
theorem dX3_in_11 : decode cX3_in 11 = .ok (.goto 4, 3) := by decide +kernel
theorem dX3_in_14 : decode cX3_in 14 = .ok (.iconst 0, 1) := by decide +kernel
theorem dX3_in_15 : decode cX3_in 15 = .ok (.ireturn, 1) := by decide +kernel
theorem dX3_isMessage_0 : decode cX3_isMessage 0 = .ok (.iload_n 1, 1) := by decide +kernel
theorem dX3_isMessage_1 : decode cX3_isMessage 1 = .ok (.iconst 0, 1) := by decide +kernel
theorem dX3_isMessage_2 : decode cX3_isMessage 2 = .ok (.aload_n 0, 1) := by decide +kernel
theorem dX3_isMessage_3 : decode cX3_isMessage 3 = .ok (.getfield 74, 3) := by decide +kernel
theorem dX3_isMessage_6 : decode cX3_isMessage 6 = .ok (.iconst 1, 1) := by decide +kernel
theorem dX3_isMessage_7 : decode cX3_isMessage 7 = .ok (.isub, 1) := by decide +kernel
theorem dX3_isMessage_8 : decode cX3_isMessage 8 = .ok (.invokestatic 78, 3) := by decide +kernel
theorem dX3_isMessage_11 : decode cX3_isMessage 11 = .ok (.ireturn, 1) := by decide +kernel
theorem dX3_passes_0 : decode cX3_passes 0 = .ok (.iload_n 0, 1) := by decide +kernel
theorem dX3_passes_1 : decode cX3_passes 1 = .ok (.iload_n 1, 1) := by decide +kernel
theorem dX3_passes_2 : decode cX3_passes 2 = .ok (.if_icmp .eq 27, 3) := by decide +kernel
theorem dX3_passes_5 : decode cX3_passes 5 = .ok (.iload_n 1, 1) := by decide +kernel
theorem dX3_passes_6 : decode cX3_passes 6 = .ok (.ifCond .ne 13, 3) := by decide +kernel
theorem dX3_passes_9 : decode cX3_passes 9 = .ok (.iload_n 0, 1) := by decide +kernel
theorem dX3_passes_10 : decode cX3_passes 10 = .ok (.iconst 1, 1) := by decide +kernel
theorem dX3_passes_11 : decode cX3_passes 11 = .ok (.if_icmp .eq 18, 3) := by decide +kernel
theorem dX3_passes_14 : decode cX3_passes 14 = .ok (.iload_n 0, 1) := by decide +kernel
theorem dX3_passes_15 : decode cX3_passes 15 = .ok (.iconst 2, 1) := by decide +kernel
theorem dX3_passes_16 : decode cX3_passes 16 = .ok (.if_icmp .eq 13, 3) := by decide +kernel
theorem dX3_passes_19 : decode cX3_passes 19 = .ok (.iload_n 0, 1) := by decide +kernel
theorem dX3_passes_20 : decode cX3_passes 20 = .ok (.iconst 2, 1) := by decide +kernel
theorem dX3_passes_21 : decode cX3_passes 21 = .ok (.if_icmp .ne 12, 3) := by decide +kernel
theorem dX3_passes_24 : decode cX3_passes 24 = .ok (.iload_n 1, 1) := by decide +kernel
theorem dX3_passes_25 : decode cX3_passes 25 = .ok (.iconst 3, 1) := by decide +kernel
theorem dX3_passes_26 : decode cX3_passes 26 = .ok (.if_icmp .ne 7, 3) := by decide +kernel
theorem dX3_passes_29 : decode cX3_passes 29 = .ok (.iconst 1, 1) := by decide +kernel
theorem dX3_passes_30 : decode cX3_passes 30 = .ok (.goto 4, 3) := by decide +kernel
theorem dX3_passes_33 : decode cX3_passes 33 = .ok (.iconst 0, 1) := by decide +kernel
theorem dX3_passes_34 : decode cX3_passes 34 = .ok (.ireturn, 1) := by decide +kernel
theorem dX3_isOf_0 : decode cX3_isOf 0 = .ok (.aload_n 0, 1) := by decide +kernel
theorem dX3_isOf_1 : decode cX3_isOf 1 = .ok (.getfield 13, 3) := by decide +kernel
theorem dX3_isOf_4 : decode cX3_isOf 4 = .ok (.iload_n 1, 1) := by decide +kernel
theorem dX3_isOf_5 : decode cX3_isOf 5 = .ok (.iaload, 1) := by decide +kernel
theorem dX3_isOf_6 : decode cX3_isOf 6 = .ok (.iload_n 3, 1) := by decide +kernel
theorem dX3_isOf_7 : decode cX3_isOf 7 = .ok (.if_icmp .ne 20, 3) := by decide +kernel
theorem dX3_isOf_10 : decode cX3_isOf 10 = .ok (.aload_n 0, 1) := by decide +kernel
theorem dX3_isOf_11 : decode cX3_isOf 11 = .ok (.getfield 7, 3) := by decide +kernel
theorem dX3_isOf_14 : decode cX3_isOf 14 = .ok (.iload_n 1, 1) := by decide +kernel
theorem dX3_isOf_15 : decode cX3_isOf 15 = .ok (.iaload, 1) := by decide +kernel
theorem dX3_isOf_16 : decode cX3_isOf 16 = .ok (.iload_n 2, 1) := by decide +kernel
theorem dX3_isOf_17 : decode cX3_isOf 17 = .ok (.invokestatic 82, 3) := by decide +kernel
theorem dX3_isOf_20 : decode cX3_isOf 20 = .ok (.ifCond .eq 7, 3) := by decide +kernel
theorem dX3_isOf_23 : decode cX3_isOf 23 = .ok (.iconst 1, 1) := by decide +kernel
theorem dX3_isOf_24 : decode cX3_isOf 24 = .ok (.goto 4, 3) := by decide +kernel
theorem dX3_isOf_27 : decode cX3_isOf 27 = .ok (.iconst 0, 1) := by decide +kernel
theorem dX3_isOf_28 : decode cX3_isOf 28 = .ok (.ireturn, 1) := by decide +kernel
theorem dX3_isFigures_0 : decode cX3_isFigures 0 = .ok (.aload_n 0, 1) := by decide +kernel
theorem dX3_isFigures_1 : decode cX3_isFigures 1 = .ok (.getfield 7, 3) := by decide +kernel
theorem dX3_isFigures_4 : decode cX3_isFigures 4 = .ok (.iload_n 1, 1) := by decide +kernel
theorem dX3_isFigures_5 : decode cX3_isFigures 5 = .ok (.iaload, 1) := by decide +kernel
theorem dX3_isFigures_6 : decode cX3_isFigures 6 = .ok (.iconst 3, 1) := by decide +kernel
theorem dX3_isFigures_7 : decode cX3_isFigures 7 = .ok (.if_icmp .le 17, 3) := by decide +kernel
theorem dX3_isFigures_10 : decode cX3_isFigures 10 = .ok (.aload_n 0, 1) := by decide +kernel
theorem dX3_isFigures_11 : decode cX3_isFigures 11 = .ok (.getfield 13, 3) := by decide +kernel
theorem dX3_isFigures_14 : decode cX3_isFigures 14 = .ok (.iload_n 1, 1) := by decide +kernel
theorem dX3_isFigures_15 : decode cX3_isFigures 15 = .ok (.iaload, 1) := by decide +kernel
theorem dX3_isFigures_16 : decode cX3_isFigures 16 = .ok (.iconst 1, 1) := by decide +kernel
theorem dX3_isFigures_17 : decode cX3_isFigures 17 = .ok (.if_icmp .ne 7, 3) := by decide +kernel
theorem dX3_isFigures_20 : decode cX3_isFigures 20 = .ok (.iconst 1, 1) := by decide +kernel
theorem dX3_isFigures_21 : decode cX3_isFigures 21 = .ok (.goto 4, 3) := by decide +kernel
theorem dX3_isFigures_24 : decode cX3_isFigures 24 = .ok (.iconst 0, 1) := by decide +kernel
theorem dX3_isFigures_25 : decode cX3_isFigures 25 = .ok (.ireturn, 1) := by decide +kernel
theorem dX3_isBundle_0 : decode cX3_isBundle 0 = .ok (.aload_n 0, 1) := by decide +kernel
theorem dX3_isBundle_1 : decode cX3_isBundle 1 = .ok (.getfield 13, 3) := by decide +kernel
theorem dX3_isBundle_4 : decode cX3_isBundle 4 = .ok (.iload_n 1, 1) := by decide +kernel
theorem dX3_isBundle_5 : decode cX3_isBundle 5 = .ok (.iaload, 1) := by decide +kernel
theorem dX3_isBundle_6 : decode cX3_isBundle 6 = .ok (.ifCond .le 15, 3) := by decide +kernel
theorem dX3_isBundle_9 : decode cX3_isBundle 9 = .ok (.aload_n 0, 1) := by decide +kernel
theorem dX3_isBundle_10 : decode cX3_isBundle 10 = .ok (.iload_n 1, 1) := by decide +kernel
theorem dX3_isBundle_11 : decode cX3_isBundle 11 = .ok (.invokevirtual 86, 3) := by decide +kernel
theorem dX3_isBundle_14 : decode cX3_isBundle 14 = .ok (.ifCond .ne 7, 3) := by decide +kernel
theorem dX3_isBundle_17 : decode cX3_isBundle 17 = .ok (.iconst 1, 1) := by decide +kernel
theorem dX3_isBundle_18 : decode cX3_isBundle 18 = .ok (.goto 4, 3) := by decide +kernel
theorem dX3_isBundle_21 : decode cX3_isBundle 21 = .ok (.iconst 0, 1) := by decide +kernel
theorem dX3_isBundle_22 : decode cX3_isBundle 22 = .ok (.ireturn, 1) := by decide +kernel
theorem dX3_holds_0 : decode cX3_holds 0 = .ok (.iload_n 2, 1) := by decide +kernel
theorem dX3_holds_1 : decode cX3_holds 1 = .ok (.iconst (-1), 1) := by decide +kernel
theorem dX3_holds_2 : decode cX3_holds 2 = .ok (.if_icmp .eq 25, 3) := by decide +kernel
theorem dX3_holds_5 : decode cX3_holds 5 = .ok (.aload_n 0, 1) := by decide +kernel
theorem dX3_holds_6 : decode cX3_holds 6 = .ok (.iload_n 2, 1) := by decide +kernel
theorem dX3_holds_7 : decode cX3_holds 7 = .ok (.aload_n 0, 1) := by decide +kernel
theorem dX3_holds_8 : decode cX3_holds 8 = .ok (.getfield 7, 3) := by decide +kernel
theorem dX3_holds_11 : decode cX3_holds 11 = .ok (.iload_n 1, 1) := by decide +kernel
theorem dX3_holds_12 : decode cX3_holds 12 = .ok (.iaload, 1) := by decide +kernel
theorem dX3_holds_13 : decode cX3_holds 13 = .ok (.aload_n 0, 1) := by decide +kernel
theorem dX3_holds_14 : decode cX3_holds 14 = .ok (.getfield 13, 3) := by decide +kernel
theorem dX3_holds_17 : decode cX3_holds 17 = .ok (.iload_n 1, 1) := by decide +kernel
theorem dX3_holds_18 : decode cX3_holds 18 = .ok (.iaload, 1) := by decide +kernel
theorem dX3_holds_19 : decode cX3_holds 19 = .ok (.iconst 1, 1) := by decide +kernel
theorem dX3_holds_20 : decode cX3_holds 20 = .ok (.isub, 1) := by decide +kernel
theorem dX3_holds_21 : decode cX3_holds 21 = .ok (.invokevirtual 90, 3) := by decide +kernel
theorem dX3_holds_24 : decode cX3_holds 24 = .ok (.ifCond .eq 7, 3) := by decide +kernel
theorem dX3_holds_27 : decode cX3_holds 27 = .ok (.iconst 1, 1) := by decide +kernel
theorem dX3_holds_28 : decode cX3_holds 28 = .ok (.goto 4, 3) := by decide +kernel
theorem dX3_holds_31 : decode cX3_holds 31 = .ok (.iconst 0, 1) := by decide +kernel
theorem dX3_holds_32 : decode cX3_holds 32 = .ok (.ireturn, 1) := by decide +kernel
theorem dX3_kept_0 : decode cX3_kept 0 = .ok (.aload_n 0, 1) := by decide +kernel
theorem dX3_kept_1 : decode cX3_kept 1 = .ok (.getfield 7, 3) := by decide +kernel
theorem dX3_kept_4 : decode cX3_kept 4 = .ok (.aload_n 0, 1) := by decide +kernel
theorem dX3_kept_5 : decode cX3_kept 5 = .ok (.getfield 74, 3) := by decide +kernel
theorem dX3_kept_8 : decode cX3_kept 8 = .ok (.iload_n 1, 1) := by decide +kernel
theorem dX3_kept_9 : decode cX3_kept 9 = .ok (.iastore, 1) := by decide +kernel
theorem dX3_kept_10 : decode cX3_kept 10 = .ok (.aload_n 0, 1) := by decide +kernel
theorem dX3_kept_11 : decode cX3_kept 11 = .ok (.getfield 13, 3) := by decide +kernel
theorem dX3_kept_14 : decode cX3_kept 14 = .ok (.aload_n 0, 1) := by decide +kernel
theorem dX3_kept_15 : decode cX3_kept 15 = .ok (.getfield 74, 3) := by decide +kernel
theorem dX3_kept_18 : decode cX3_kept 18 = .ok (.iload_n 2, 1) := by decide +kernel
theorem dX3_kept_19 : decode cX3_kept 19 = .ok (.iastore, 1) := by decide +kernel
theorem dX3_kept_20 : decode cX3_kept 20 = .ok (.aload_n 0, 1) := by decide +kernel
theorem dX3_kept_21 : decode cX3_kept 21 = .ok (.getfield 16, 3) := by decide +kernel
theorem dX3_kept_24 : decode cX3_kept 24 = .ok (.aload_n 0, 1) := by decide +kernel
theorem dX3_kept_25 : decode cX3_kept 25 = .ok (.getfield 74, 3) := by decide +kernel
theorem dX3_kept_28 : decode cX3_kept 28 = .ok (.iconst 0, 1) := by decide +kernel
theorem dX3_kept_29 : decode cX3_kept 29 = .ok (.iastore, 1) := by decide +kernel
theorem dX3_kept_30 : decode cX3_kept 30 = .ok (.aload_n 0, 1) := by decide +kernel
theorem dX3_kept_31 : decode cX3_kept 31 = .ok (.getfield 19, 3) := by decide +kernel
theorem dX3_kept_34 : decode cX3_kept 34 = .ok (.aload_n 0, 1) := by decide +kernel
theorem dX3_kept_35 : decode cX3_kept 35 = .ok (.getfield 74, 3) := by decide +kernel
theorem dX3_kept_38 : decode cX3_kept 38 = .ok (.iload_n 3, 1) := by decide +kernel
theorem dX3_kept_39 : decode cX3_kept 39 = .ok (.iastore, 1) := by decide +kernel
theorem dX3_kept_40 : decode cX3_kept 40 = .ok (.iconst 0, 1) := by decide +kernel
theorem dX3_kept_41 : decode cX3_kept 41 = .ok (.istore 5, 2) := by decide +kernel
theorem dX3_kept_43 : decode cX3_kept 43 = .ok (.iload 5, 2) := by decide +kernel
theorem dX3_kept_45 : decode cX3_kept 45 = .ok (.bipush 8, 2) := by decide +kernel
theorem dX3_kept_47 : decode cX3_kept 47 = .ok (.if_icmp .ge 26, 3) := by decide +kernel
theorem dX3_kept_50 : decode cX3_kept 50 = .ok (.aload_n 0, 1) := by decide +kernel
theorem dX3_kept_51 : decode cX3_kept 51 = .ok (.getfield 22, 3) := by decide +kernel
theorem dX3_kept_54 : decode cX3_kept 54 = .ok (.bipush 8, 2) := by decide +kernel
theorem dX3_kept_56 : decode cX3_kept 56 = .ok (.aload_n 0, 1) := by decide +kernel
theorem dX3_kept_57 : decode cX3_kept 57 = .ok (.getfield 74, 3) := by decide +kernel
theorem dX3_kept_60 : decode cX3_kept 60 = .ok (.imul, 1) := by decide +kernel
theorem dX3_kept_61 : decode cX3_kept 61 = .ok (.iload 5, 2) := by decide +kernel
theorem dX3_kept_63 : decode cX3_kept 63 = .ok (.iadd, 1) := by decide +kernel
theorem dX3_kept_64 : decode cX3_kept 64 = .ok (.iload 4, 2) := by decide +kernel
theorem dX3_kept_66 : decode cX3_kept 66 = .ok (.iastore, 1) := by decide +kernel
theorem dX3_kept_67 : decode cX3_kept 67 = .ok (.iinc 5 1, 3) := by decide +kernel
theorem dX3_kept_70 : decode cX3_kept 70 = .ok (.goto (-27), 3) := by decide +kernel
theorem dX3_kept_73 : decode cX3_kept 73 = .ok (.aload_n 0, 1) := by decide +kernel
theorem dX3_kept_74 : decode cX3_kept 74 = .ok (.dup, 1) := by decide +kernel
theorem dX3_kept_75 : decode cX3_kept 75 = .ok (.getfield 74, 3) := by decide +kernel
theorem dX3_kept_78 : decode cX3_kept 78 = .ok (.iconst 1, 1) := by decide +kernel
theorem dX3_kept_79 : decode cX3_kept 79 = .ok (.iadd, 1) := by decide +kernel
theorem dX3_kept_80 : decode cX3_kept 80 = .ok (.putfield 74, 3) := by decide +kernel
theorem dX3_kept_83 : decode cX3_kept 83 = .ok (.aload_n 0, 1) := by decide +kernel
theorem dX3_kept_84 : decode cX3_kept 84 = .ok (.getfield 74, 3) := by decide +kernel
theorem dX3_kept_87 : decode cX3_kept 87 = .ok (.iconst 1, 1) := by decide +kernel
theorem dX3_kept_88 : decode cX3_kept 88 = .ok (.isub, 1) := by decide +kernel
theorem dX3_kept_89 : decode cX3_kept 89 = .ok (.ireturn, 1) := by decide +kernel
theorem dX3_slip_0 : decode cX3_slip 0 = .ok (.iload_n 1, 1) := by decide +kernel
theorem dX3_slip_1 : decode cX3_slip 1 = .ok (.iconst 0, 1) := by decide +kernel
theorem dX3_slip_2 : decode cX3_slip 2 = .ok (.iconst 2, 1) := by decide +kernel
theorem dX3_slip_3 : decode cX3_slip 3 = .ok (.invokestatic 78, 3) := by decide +kernel
theorem dX3_slip_6 : decode cX3_slip 6 = .ok (.ifCond .ne 6, 3) := by decide +kernel
theorem dX3_slip_9 : decode cX3_slip 9 = .ok (.bipush (-2), 2) := by decide +kernel
theorem dX3_slip_11 : decode cX3_slip 11 = .ok (.ireturn, 1) := by decide +kernel
theorem dX3_slip_12 : decode cX3_slip 12 = .ok (.aload_n 0, 1) := by decide +kernel
theorem dX3_slip_13 : decode cX3_slip 13 = .ok (.getfield 74, 3) := by decide +kernel
theorem dX3_slip_16 : decode cX3_slip 16 = .ok (.bipush 60, 2) := by decide +kernel
theorem dX3_slip_18 : decode cX3_slip 18 = .ok (.if_icmp .ne 6, 3) := by decide +kernel
theorem dX3_slip_21 : decode cX3_slip 21 = .ok (.bipush (-3), 2) := by decide +kernel
theorem dX3_slip_23 : decode cX3_slip 23 = .ok (.ireturn, 1) := by decide +kernel
theorem dX3_slip_24 : decode cX3_slip 24 = .ok (.aload_n 0, 1) := by decide +kernel
theorem dX3_slip_25 : decode cX3_slip 25 = .ok (.iload_n 1, 1) := by decide +kernel
theorem dX3_slip_26 : decode cX3_slip 26 = .ok (.iconst 0, 1) := by decide +kernel
theorem dX3_slip_27 : decode cX3_slip 27 = .ok (.iconst 0, 1) := by decide +kernel
theorem dX3_slip_28 : decode cX3_slip 28 = .ok (.iconst (-1), 1) := by decide +kernel
theorem dX3_slip_29 : decode cX3_slip 29 = .ok (.invokevirtual 93, 3) := by decide +kernel
theorem dX3_slip_32 : decode cX3_slip 32 = .ok (.istore_n 3, 1) := by decide +kernel
theorem dX3_slip_33 : decode cX3_slip 33 = .ok (.aload_n 0, 1) := by decide +kernel
theorem dX3_slip_34 : decode cX3_slip 34 = .ok (.getfield 16, 3) := by decide +kernel
theorem dX3_slip_37 : decode cX3_slip 37 = .ok (.iload_n 3, 1) := by decide +kernel
theorem dX3_slip_38 : decode cX3_slip 38 = .ok (.iload_n 2, 1) := by decide +kernel
theorem dX3_slip_39 : decode cX3_slip 39 = .ok (.iastore, 1) := by decide +kernel
theorem dX3_slip_40 : decode cX3_slip 40 = .ok (.iload_n 3, 1) := by decide +kernel
theorem dX3_slip_41 : decode cX3_slip 41 = .ok (.ireturn, 1) := by decide +kernel
theorem dX3_bundle_0 : decode cX3_bundle 0 = .ok (.iload_n 1, 1) := by decide +kernel
theorem dX3_bundle_1 : decode cX3_bundle 1 = .ok (.iconst 0, 1) := by decide +kernel
theorem dX3_bundle_2 : decode cX3_bundle 2 = .ok (.iconst 5, 1) := by decide +kernel
theorem dX3_bundle_3 : decode cX3_bundle 3 = .ok (.invokestatic 78, 3) := by decide +kernel
theorem dX3_bundle_6 : decode cX3_bundle 6 = .ok (.ifCond .eq 18, 3) := by decide +kernel
theorem dX3_bundle_9 : decode cX3_bundle 9 = .ok (.iload_n 2, 1) := by decide +kernel
theorem dX3_bundle_10 : decode cX3_bundle 10 = .ok (.iconst 1, 1) := by decide +kernel
theorem dX3_bundle_11 : decode cX3_bundle 11 = .ok (.iconst 3, 1) := by decide +kernel
theorem dX3_bundle_12 : decode cX3_bundle 12 = .ok (.invokestatic 78, 3) := by decide +kernel
theorem dX3_bundle_15 : decode cX3_bundle 15 = .ok (.ifCond .eq 9, 3) := by decide +kernel
theorem dX3_bundle_18 : decode cX3_bundle 18 = .ok (.iload_n 3, 1) := by decide +kernel
theorem dX3_bundle_19 : decode cX3_bundle 19 = .ok (.bipush 8, 2) := by decide +kernel
theorem dX3_bundle_21 : decode cX3_bundle 21 = .ok (.if_icmp .le 6, 3) := by decide +kernel
theorem dX3_bundle_24 : decode cX3_bundle 24 = .ok (.bipush (-2), 2) := by decide +kernel
theorem dX3_bundle_26 : decode cX3_bundle 26 = .ok (.ireturn, 1) := by decide +kernel
theorem dX3_bundle_27 : decode cX3_bundle 27 = .ok (.aload_n 0, 1) := by decide +kernel
theorem dX3_bundle_28 : decode cX3_bundle 28 = .ok (.getfield 74, 3) := by decide +kernel
theorem dX3_bundle_31 : decode cX3_bundle 31 = .ok (.bipush 60, 2) := by decide +kernel
theorem dX3_bundle_33 : decode cX3_bundle 33 = .ok (.if_icmp .ne 6, 3) := by decide +kernel
theorem dX3_bundle_36 : decode cX3_bundle 36 = .ok (.bipush (-3), 2) := by decide +kernel
theorem dX3_bundle_38 : decode cX3_bundle 38 = .ok (.ireturn, 1) := by decide +kernel
theorem dX3_bundle_39 : decode cX3_bundle 39 = .ok (.iload_n 3, 1) := by decide +kernel
theorem dX3_bundle_40 : decode cX3_bundle 40 = .ok (.ifCond .ge 8, 3) := by decide +kernel
theorem dX3_bundle_43 : decode cX3_bundle 43 = .ok (.bipush (-6), 2) := by decide +kernel
theorem dX3_bundle_45 : decode cX3_bundle 45 = .ok (.goto 25, 3) := by decide +kernel
theorem dX3_bundle_48 : decode cX3_bundle 48 = .ok (.aload_n 0, 1) := by decide +kernel
theorem dX3_bundle_49 : decode cX3_bundle 49 = .ok (.iload_n 1, 1) := by decide +kernel
theorem dX3_bundle_50 : decode cX3_bundle 50 = .ok (.iload_n 2, 1) := by decide +kernel
theorem dX3_bundle_51 : decode cX3_bundle 51 = .ok (.iload_n 3, 1) := by decide +kernel
theorem dX3_bundle_52 : decode cX3_bundle 52 = .ok (.iload_n 1, 1) := by decide +kernel
theorem dX3_bundle_53 : decode cX3_bundle 53 = .ok (.iconst 3, 1) := by decide +kernel
theorem dX3_bundle_54 : decode cX3_bundle 54 = .ok (.if_icmp .le 12, 3) := by decide +kernel
theorem dX3_bundle_57 : decode cX3_bundle 57 = .ok (.iload_n 2, 1) := by decide +kernel
theorem dX3_bundle_58 : decode cX3_bundle 58 = .ok (.iconst 1, 1) := by decide +kernel
theorem dX3_bundle_59 : decode cX3_bundle 59 = .ok (.if_icmp .ne 7, 3) := by decide +kernel
theorem dX3_bundle_62 : decode cX3_bundle 62 = .ok (.iconst 0, 1) := by decide +kernel
theorem dX3_bundle_63 : decode cX3_bundle 63 = .ok (.goto 4, 3) := by decide +kernel
theorem dX3_bundle_66 : decode cX3_bundle 66 = .ok (.iconst (-1), 1) := by decide +kernel
theorem dX3_bundle_67 : decode cX3_bundle 67 = .ok (.invokevirtual 93, 3) := by decide +kernel
theorem dX3_bundle_70 : decode cX3_bundle 70 = .ok (.ireturn, 1) := by decide +kernel
theorem dX3_place_0 : decode cX3_place 0 = .ok (.aload_n 0, 1) := by decide +kernel
theorem dX3_place_1 : decode cX3_place 1 = .ok (.iload_n 1, 1) := by decide +kernel
theorem dX3_place_2 : decode cX3_place 2 = .ok (.invokevirtual 97, 3) := by decide +kernel
theorem dX3_place_5 : decode cX3_place 5 = .ok (.ifCond .eq 16, 3) := by decide +kernel
theorem dX3_place_8 : decode cX3_place 8 = .ok (.iload_n 3, 1) := by decide +kernel
theorem dX3_place_9 : decode cX3_place 9 = .ok (.iconst (-1), 1) := by decide +kernel
theorem dX3_place_10 : decode cX3_place 10 = .ok (.if_icmp .eq 14, 3) := by decide +kernel
theorem dX3_place_13 : decode cX3_place 13 = .ok (.aload_n 0, 1) := by decide +kernel
theorem dX3_place_14 : decode cX3_place 14 = .ok (.iload_n 3, 1) := by decide +kernel
theorem dX3_place_15 : decode cX3_place 15 = .ok (.invokevirtual 97, 3) := by decide +kernel
theorem dX3_place_18 : decode cX3_place 18 = .ok (.ifCond .ne 6, 3) := by decide +kernel
theorem dX3_place_21 : decode cX3_place 21 = .ok (.bipush (-2), 2) := by decide +kernel
theorem dX3_place_23 : decode cX3_place 23 = .ok (.ireturn, 1) := by decide +kernel
theorem dX3_place_24 : decode cX3_place 24 = .ok (.aload_n 0, 1) := by decide +kernel
theorem dX3_place_25 : decode cX3_place 25 = .ok (.iload_n 1, 1) := by decide +kernel
theorem dX3_place_26 : decode cX3_place 26 = .ok (.invokevirtual 100, 3) := by decide +kernel
theorem dX3_place_29 : decode cX3_place 29 = .ok (.ifCond .eq 28, 3) := by decide +kernel
theorem dX3_place_32 : decode cX3_place 32 = .ok (.iload_n 2, 1) := by decide +kernel
theorem dX3_place_33 : decode cX3_place 33 = .ok (.iconst 0, 1) := by decide +kernel
theorem dX3_place_34 : decode cX3_place 34 = .ok (.aload_n 0, 1) := by decide +kernel
theorem dX3_place_35 : decode cX3_place 35 = .ok (.getfield 19, 3) := by decide +kernel
theorem dX3_place_38 : decode cX3_place 38 = .ok (.iload_n 1, 1) := by decide +kernel
theorem dX3_place_39 : decode cX3_place 39 = .ok (.iaload, 1) := by decide +kernel
theorem dX3_place_40 : decode cX3_place 40 = .ok (.iconst 1, 1) := by decide +kernel
theorem dX3_place_41 : decode cX3_place 41 = .ok (.isub, 1) := by decide +kernel
theorem dX3_place_42 : decode cX3_place 42 = .ok (.invokestatic 78, 3) := by decide +kernel
theorem dX3_place_45 : decode cX3_place 45 = .ok (.ifCond .eq 12, 3) := by decide +kernel
theorem dX3_place_48 : decode cX3_place 48 = .ok (.aload_n 0, 1) := by decide +kernel
theorem dX3_place_49 : decode cX3_place 49 = .ok (.iload_n 1, 1) := by decide +kernel
theorem dX3_place_50 : decode cX3_place 50 = .ok (.iload_n 3, 1) := by decide +kernel
theorem dX3_place_51 : decode cX3_place 51 = .ok (.invokevirtual 103, 3) := by decide +kernel
theorem dX3_place_54 : decode cX3_place 54 = .ok (.ifCond .ne 6, 3) := by decide +kernel
theorem dX3_place_57 : decode cX3_place 57 = .ok (.bipush (-5), 2) := by decide +kernel
theorem dX3_place_59 : decode cX3_place 59 = .ok (.ireturn, 1) := by decide +kernel
theorem dX3_place_60 : decode cX3_place 60 = .ok (.aload_n 0, 1) := by decide +kernel
theorem dX3_place_61 : decode cX3_place 61 = .ok (.getfield 22, 3) := by decide +kernel
theorem dX3_place_64 : decode cX3_place 64 = .ok (.bipush 8, 2) := by decide +kernel
theorem dX3_place_66 : decode cX3_place 66 = .ok (.iload_n 1, 1) := by decide +kernel
theorem dX3_place_67 : decode cX3_place 67 = .ok (.imul, 1) := by decide +kernel
theorem dX3_place_68 : decode cX3_place 68 = .ok (.iload_n 2, 1) := by decide +kernel
theorem dX3_place_69 : decode cX3_place 69 = .ok (.iadd, 1) := by decide +kernel
theorem dX3_place_70 : decode cX3_place 70 = .ok (.iload_n 3, 1) := by decide +kernel
theorem dX3_place_71 : decode cX3_place 71 = .ok (.iastore, 1) := by decide +kernel
theorem dX3_place_72 : decode cX3_place 72 = .ok (.iconst 1, 1) := by decide +kernel
theorem dX3_place_73 : decode cX3_place 73 = .ok (.ireturn, 1) := by decide +kernel
theorem dX3_placed_0 : decode cX3_placed 0 = .ok (.aload_n 0, 1) := by decide +kernel
theorem dX3_placed_1 : decode cX3_placed 1 = .ok (.iload_n 1, 1) := by decide +kernel
theorem dX3_placed_2 : decode cX3_placed 2 = .ok (.invokevirtual 97, 3) := by decide +kernel
theorem dX3_placed_5 : decode cX3_placed 5 = .ok (.ifCond .ne 6, 3) := by decide +kernel
theorem dX3_placed_8 : decode cX3_placed 8 = .ok (.bipush (-2), 2) := by decide +kernel
theorem dX3_placed_10 : decode cX3_placed 10 = .ok (.ireturn, 1) := by decide +kernel
theorem dX3_placed_11 : decode cX3_placed 11 = .ok (.aload_n 0, 1) := by decide +kernel
theorem dX3_placed_12 : decode cX3_placed 12 = .ok (.iload_n 1, 1) := by decide +kernel
theorem dX3_placed_13 : decode cX3_placed 13 = .ok (.invokevirtual 100, 3) := by decide +kernel
theorem dX3_placed_16 : decode cX3_placed 16 = .ok (.ifCond .eq 33, 3) := by decide +kernel
theorem dX3_placed_19 : decode cX3_placed 19 = .ok (.iload_n 2, 1) := by decide +kernel
theorem dX3_placed_20 : decode cX3_placed 20 = .ok (.iconst 0, 1) := by decide +kernel
theorem dX3_placed_21 : decode cX3_placed 21 = .ok (.aload_n 0, 1) := by decide +kernel
theorem dX3_placed_22 : decode cX3_placed 22 = .ok (.getfield 19, 3) := by decide +kernel
theorem dX3_placed_25 : decode cX3_placed 25 = .ok (.iload_n 1, 1) := by decide +kernel
theorem dX3_placed_26 : decode cX3_placed 26 = .ok (.iaload, 1) := by decide +kernel
theorem dX3_placed_27 : decode cX3_placed 27 = .ok (.iconst 1, 1) := by decide +kernel
theorem dX3_placed_28 : decode cX3_placed 28 = .ok (.isub, 1) := by decide +kernel
theorem dX3_placed_29 : decode cX3_placed 29 = .ok (.invokestatic 78, 3) := by decide +kernel
theorem dX3_placed_32 : decode cX3_placed 32 = .ok (.ifCond .eq 17, 3) := by decide +kernel
theorem dX3_placed_35 : decode cX3_placed 35 = .ok (.aload_n 0, 1) := by decide +kernel
theorem dX3_placed_36 : decode cX3_placed 36 = .ok (.getfield 22, 3) := by decide +kernel
theorem dX3_placed_39 : decode cX3_placed 39 = .ok (.bipush 8, 2) := by decide +kernel
theorem dX3_placed_41 : decode cX3_placed 41 = .ok (.iload_n 1, 1) := by decide +kernel
theorem dX3_placed_42 : decode cX3_placed 42 = .ok (.imul, 1) := by decide +kernel
theorem dX3_placed_43 : decode cX3_placed 43 = .ok (.iload_n 2, 1) := by decide +kernel
theorem dX3_placed_44 : decode cX3_placed 44 = .ok (.iadd, 1) := by decide +kernel
theorem dX3_placed_45 : decode cX3_placed 45 = .ok (.iaload, 1) := by decide +kernel
theorem dX3_placed_46 : decode cX3_placed 46 = .ok (.goto 5, 3) := by decide +kernel
theorem dX3_placed_49 : decode cX3_placed 49 = .ok (.bipush (-5), 2) := by decide +kernel
theorem dX3_placed_51 : decode cX3_placed 51 = .ok (.ireturn, 1) := by decide +kernel
theorem dX3_cut_0 : decode cX3_cut 0 = .ok (.iload_n 0, 1) := by decide +kernel
theorem dX3_cut_1 : decode cX3_cut 1 = .ok (.iconst 4, 1) := by decide +kernel
theorem dX3_cut_2 : decode cX3_cut 2 = .ok (.if_icmp .ne 8, 3) := by decide +kernel
theorem dX3_cut_5 : decode cX3_cut 5 = .ok (.iload_n 1, 1) := by decide +kernel
theorem dX3_cut_6 : decode cX3_cut 6 = .ok (.i2b, 1) := by decide +kernel
theorem dX3_cut_7 : decode cX3_cut 7 = .ok (.goto 7, 3) := by decide +kernel
theorem dX3_cut_10 : decode cX3_cut 10 = .ok (.iload_n 1, 1) := by decide +kernel
theorem dX3_cut_11 : decode cX3_cut 11 = .ok (.ldc 106, 2) := by decide +kernel
theorem dX3_cut_13 : decode cX3_cut 13 = .ok (.iand, 1) := by decide +kernel
theorem dX3_cut_14 : decode cX3_cut 14 = .ok (.ireturn, 1) := by decide +kernel
theorem dX3_figure_0 : decode cX3_figure 0 = .ok (.aload_n 0, 1) := by decide +kernel
theorem dX3_figure_1 : decode cX3_figure 1 = .ok (.iload_n 1, 1) := by decide +kernel
theorem dX3_figure_2 : decode cX3_figure 2 = .ok (.invokevirtual 97, 3) := by decide +kernel
theorem dX3_figure_5 : decode cX3_figure 5 = .ok (.ifCond .ne 6, 3) := by decide +kernel
theorem dX3_figure_8 : decode cX3_figure 8 = .ok (.bipush (-2), 2) := by decide +kernel
theorem dX3_figure_10 : decode cX3_figure 10 = .ok (.ireturn, 1) := by decide +kernel
theorem dX3_figure_11 : decode cX3_figure 11 = .ok (.aload_n 0, 1) := by decide +kernel
theorem dX3_figure_12 : decode cX3_figure 12 = .ok (.iload_n 1, 1) := by decide +kernel
theorem dX3_figure_13 : decode cX3_figure 13 = .ok (.invokevirtual 86, 3) := by decide +kernel
theorem dX3_figure_16 : decode cX3_figure 16 = .ok (.ifCond .eq 19, 3) := by decide +kernel
theorem dX3_figure_19 : decode cX3_figure 19 = .ok (.iload_n 2, 1) := by decide +kernel
theorem dX3_figure_20 : decode cX3_figure 20 = .ok (.iconst 0, 1) := by decide +kernel
theorem dX3_figure_21 : decode cX3_figure 21 = .ok (.aload_n 0, 1) := by decide +kernel
theorem dX3_figure_22 : decode cX3_figure 22 = .ok (.getfield 19, 3) := by decide +kernel
theorem dX3_figure_25 : decode cX3_figure 25 = .ok (.iload_n 1, 1) := by decide +kernel
theorem dX3_figure_26 : decode cX3_figure 26 = .ok (.iaload, 1) := by decide +kernel
theorem dX3_figure_27 : decode cX3_figure 27 = .ok (.iconst 1, 1) := by decide +kernel
theorem dX3_figure_28 : decode cX3_figure 28 = .ok (.isub, 1) := by decide +kernel
theorem dX3_figure_29 : decode cX3_figure 29 = .ok (.invokestatic 78, 3) := by decide +kernel
theorem dX3_figure_32 : decode cX3_figure 32 = .ok (.ifCond .ne 6, 3) := by decide +kernel
theorem dX3_figure_35 : decode cX3_figure 35 = .ok (.bipush (-5), 2) := by decide +kernel
theorem dX3_figure_37 : decode cX3_figure 37 = .ok (.ireturn, 1) := by decide +kernel
theorem dX3_figure_38 : decode cX3_figure 38 = .ok (.aload_n 0, 1) := by decide +kernel
theorem dX3_figure_39 : decode cX3_figure 39 = .ok (.getfield 22, 3) := by decide +kernel
theorem dX3_figure_42 : decode cX3_figure 42 = .ok (.bipush 8, 2) := by decide +kernel
theorem dX3_figure_44 : decode cX3_figure 44 = .ok (.iload_n 1, 1) := by decide +kernel
theorem dX3_figure_45 : decode cX3_figure 45 = .ok (.imul, 1) := by decide +kernel
theorem dX3_figure_46 : decode cX3_figure 46 = .ok (.iload_n 2, 1) := by decide +kernel
theorem dX3_figure_47 : decode cX3_figure 47 = .ok (.iadd, 1) := by decide +kernel
theorem dX3_figure_48 : decode cX3_figure 48 = .ok (.aload_n 0, 1) := by decide +kernel
theorem dX3_figure_49 : decode cX3_figure 49 = .ok (.getfield 7, 3) := by decide +kernel
theorem dX3_figure_52 : decode cX3_figure 52 = .ok (.iload_n 1, 1) := by decide +kernel
theorem dX3_figure_53 : decode cX3_figure 53 = .ok (.iaload, 1) := by decide +kernel
theorem dX3_figure_54 : decode cX3_figure 54 = .ok (.iload_n 3, 1) := by decide +kernel
theorem dX3_figure_55 : decode cX3_figure 55 = .ok (.invokestatic 107, 3) := by decide +kernel
theorem dX3_figure_58 : decode cX3_figure 58 = .ok (.iastore, 1) := by decide +kernel
theorem dX3_figure_59 : decode cX3_figure 59 = .ok (.iconst 1, 1) := by decide +kernel
theorem dX3_figure_60 : decode cX3_figure 60 = .ok (.ireturn, 1) := by decide +kernel
theorem dX3_number_0 : decode cX3_number 0 = .ok (.aload_n 0, 1) := by decide +kernel
theorem dX3_number_1 : decode cX3_number 1 = .ok (.iload_n 1, 1) := by decide +kernel
theorem dX3_number_2 : decode cX3_number 2 = .ok (.invokevirtual 97, 3) := by decide +kernel
theorem dX3_number_5 : decode cX3_number 5 = .ok (.ifCond .ne 5, 3) := by decide +kernel
theorem dX3_number_8 : decode cX3_number 8 = .ok (.iconst 0, 1) := by decide +kernel
theorem dX3_number_9 : decode cX3_number 9 = .ok (.ireturn, 1) := by decide +kernel
theorem dX3_number_10 : decode cX3_number 10 = .ok (.aload_n 0, 1) := by decide +kernel
theorem dX3_number_11 : decode cX3_number 11 = .ok (.getfield 13, 3) := by decide +kernel
theorem dX3_number_14 : decode cX3_number 14 = .ok (.iload_n 1, 1) := by decide +kernel
theorem dX3_number_15 : decode cX3_number 15 = .ok (.iaload, 1) := by decide +kernel
theorem dX3_number_16 : decode cX3_number 16 = .ok (.ifCond .ne 19, 3) := by decide +kernel
theorem dX3_number_19 : decode cX3_number 19 = .ok (.iload_n 2, 1) := by decide +kernel
theorem dX3_number_20 : decode cX3_number 20 = .ok (.iconst (-1), 1) := by decide +kernel
theorem dX3_number_21 : decode cX3_number 21 = .ok (.if_icmp .ne 12, 3) := by decide +kernel
theorem dX3_number_24 : decode cX3_number 24 = .ok (.aload_n 0, 1) := by decide +kernel
theorem dX3_number_25 : decode cX3_number 25 = .ok (.getfield 16, 3) := by decide +kernel
theorem dX3_number_28 : decode cX3_number 28 = .ok (.iload_n 1, 1) := by decide +kernel
theorem dX3_number_29 : decode cX3_number 29 = .ok (.iaload, 1) := by decide +kernel
theorem dX3_number_30 : decode cX3_number 30 = .ok (.goto 4, 3) := by decide +kernel
theorem dX3_number_33 : decode cX3_number 33 = .ok (.iconst 0, 1) := by decide +kernel
theorem dX3_number_34 : decode cX3_number 34 = .ok (.ireturn, 1) := by decide +kernel
theorem dX3_number_35 : decode cX3_number 35 = .ok (.aload_n 0, 1) := by decide +kernel
theorem dX3_number_36 : decode cX3_number 36 = .ok (.iload_n 1, 1) := by decide +kernel
theorem dX3_number_37 : decode cX3_number 37 = .ok (.invokevirtual 86, 3) := by decide +kernel
theorem dX3_number_40 : decode cX3_number 40 = .ok (.ifCond .eq 33, 3) := by decide +kernel
theorem dX3_number_43 : decode cX3_number 43 = .ok (.iload_n 2, 1) := by decide +kernel
theorem dX3_number_44 : decode cX3_number 44 = .ok (.iconst 0, 1) := by decide +kernel
theorem dX3_number_45 : decode cX3_number 45 = .ok (.aload_n 0, 1) := by decide +kernel
theorem dX3_number_46 : decode cX3_number 46 = .ok (.getfield 19, 3) := by decide +kernel
theorem dX3_number_49 : decode cX3_number 49 = .ok (.iload_n 1, 1) := by decide +kernel
theorem dX3_number_50 : decode cX3_number 50 = .ok (.iaload, 1) := by decide +kernel
theorem dX3_number_51 : decode cX3_number 51 = .ok (.iconst 1, 1) := by decide +kernel
theorem dX3_number_52 : decode cX3_number 52 = .ok (.isub, 1) := by decide +kernel
theorem dX3_number_53 : decode cX3_number 53 = .ok (.invokestatic 78, 3) := by decide +kernel
theorem dX3_number_56 : decode cX3_number 56 = .ok (.ifCond .eq 17, 3) := by decide +kernel
theorem dX3_number_59 : decode cX3_number 59 = .ok (.aload_n 0, 1) := by decide +kernel
theorem dX3_number_60 : decode cX3_number 60 = .ok (.getfield 22, 3) := by decide +kernel
theorem dX3_number_63 : decode cX3_number 63 = .ok (.bipush 8, 2) := by decide +kernel
theorem dX3_number_65 : decode cX3_number 65 = .ok (.iload_n 1, 1) := by decide +kernel
theorem dX3_number_66 : decode cX3_number 66 = .ok (.imul, 1) := by decide +kernel
theorem dX3_number_67 : decode cX3_number 67 = .ok (.iload_n 2, 1) := by decide +kernel
theorem dX3_number_68 : decode cX3_number 68 = .ok (.iadd, 1) := by decide +kernel
theorem dX3_number_69 : decode cX3_number 69 = .ok (.iaload, 1) := by decide +kernel
theorem dX3_number_70 : decode cX3_number 70 = .ok (.goto 4, 3) := by decide +kernel
theorem dX3_number_73 : decode cX3_number 73 = .ok (.iconst 0, 1) := by decide +kernel
theorem dX3_number_74 : decode cX3_number 74 = .ok (.ireturn, 1) := by decide +kernel
theorem dX3_isView_0 : decode cX3_isView 0 = .ok (.iload_n 0, 1) := by decide +kernel
theorem dX3_isView_1 : decode cX3_isView 1 = .ok (.iconst 0, 1) := by decide +kernel
theorem dX3_isView_2 : decode cX3_isView 2 = .ok (.iconst 3, 1) := by decide +kernel
theorem dX3_isView_3 : decode cX3_isView 3 = .ok (.invokestatic 78, 3) := by decide +kernel
theorem dX3_isView_6 : decode cX3_isView 6 = .ok (.ifCond .eq 12, 3) := by decide +kernel
theorem dX3_isView_9 : decode cX3_isView 9 = .ok (.iload_n 1, 1) := by decide +kernel
theorem dX3_isView_10 : decode cX3_isView 10 = .ok (.iconst 0, 1) := by decide +kernel
theorem dX3_isView_11 : decode cX3_isView 11 = .ok (.iconst 3, 1) := by decide +kernel
theorem dX3_isView_12 : decode cX3_isView 12 = .ok (.invokestatic 78, 3) := by decide +kernel
theorem dX3_isView_15 : decode cX3_isView 15 = .ok (.ifCond .ne 21, 3) := by decide +kernel
theorem dX3_isView_18 : decode cX3_isView 18 = .ok (.iload_n 0, 1) := by decide +kernel
theorem dX3_isView_19 : decode cX3_isView 19 = .ok (.iconst 4, 1) := by decide +kernel
theorem dX3_isView_20 : decode cX3_isView 20 = .ok (.iconst 5, 1) := by decide +kernel
theorem dX3_isView_21 : decode cX3_isView 21 = .ok (.invokestatic 78, 3) := by decide +kernel
theorem dX3_isView_24 : decode cX3_isView 24 = .ok (.ifCond .eq 16, 3) := by decide +kernel
theorem dX3_isView_27 : decode cX3_isView 27 = .ok (.iload_n 1, 1) := by decide +kernel
theorem dX3_isView_28 : decode cX3_isView 28 = .ok (.iconst 1, 1) := by decide +kernel
theorem dX3_isView_29 : decode cX3_isView 29 = .ok (.iconst 3, 1) := by decide +kernel
theorem dX3_isView_30 : decode cX3_isView 30 = .ok (.invokestatic 78, 3) := by decide +kernel
theorem dX3_isView_33 : decode cX3_isView 33 = .ok (.ifCond .eq 7, 3) := by decide +kernel
theorem dX3_isView_36 : decode cX3_isView 36 = .ok (.iconst 1, 1) := by decide +kernel
theorem dX3_isView_37 : decode cX3_isView 37 = .ok (.goto 4, 3) := by decide +kernel
theorem dX3_isView_40 : decode cX3_isView 40 = .ok (.iconst 0, 1) := by decide +kernel
theorem dX3_isView_41 : decode cX3_isView 41 = .ok (.ireturn, 1) := by decide +kernel
theorem dX3_is_0 : decode cX3_is 0 = .ok (.aload_n 0, 1) := by decide +kernel
theorem dX3_is_1 : decode cX3_is 1 = .ok (.iload_n 1, 1) := by decide +kernel
theorem dX3_is_2 : decode cX3_is 2 = .ok (.invokevirtual 97, 3) := by decide +kernel
theorem dX3_is_5 : decode cX3_is 5 = .ok (.ifCond .eq 11, 3) := by decide +kernel
theorem dX3_is_8 : decode cX3_is 8 = .ok (.iload_n 2, 1) := by decide +kernel
theorem dX3_is_9 : decode cX3_is 9 = .ok (.iload_n 3, 1) := by decide +kernel
theorem dX3_is_10 : decode cX3_is 10 = .ok (.invokestatic 111, 3) := by decide +kernel
theorem dX3_is_13 : decode cX3_is 13 = .ok (.ifCond .ne 6, 3) := by decide +kernel
theorem dX3_is_16 : decode cX3_is 16 = .ok (.bipush (-2), 2) := by decide +kernel
theorem dX3_is_18 : decode cX3_is 18 = .ok (.ireturn, 1) := by decide +kernel
theorem dX3_is_19 : decode cX3_is 19 = .ok (.aload_n 0, 1) := by decide +kernel
theorem dX3_is_20 : decode cX3_is 20 = .ok (.iload_n 1, 1) := by decide +kernel
theorem dX3_is_21 : decode cX3_is 21 = .ok (.iload_n 2, 1) := by decide +kernel
theorem dX3_is_22 : decode cX3_is 22 = .ok (.iload_n 3, 1) := by decide +kernel
theorem dX3_is_23 : decode cX3_is 23 = .ok (.invokevirtual 90, 3) := by decide +kernel
theorem dX3_is_26 : decode cX3_is 26 = .ok (.ifCond .eq 7, 3) := by decide +kernel
theorem dX3_is_29 : decode cX3_is 29 = .ok (.iconst 1, 1) := by decide +kernel
theorem dX3_is_30 : decode cX3_is 30 = .ok (.goto 4, 3) := by decide +kernel
theorem dX3_is_33 : decode cX3_is 33 = .ok (.iconst 0, 1) := by decide +kernel
theorem dX3_is_34 : decode cX3_is 34 = .ok (.ireturn, 1) := by decide +kernel
theorem dX3_about_0 : decode cX3_about 0 = .ok (.aload_n 0, 1) := by decide +kernel
theorem dX3_about_1 : decode cX3_about 1 = .ok (.iload_n 1, 1) := by decide +kernel
theorem dX3_about_2 : decode cX3_about 2 = .ok (.invokevirtual 97, 3) := by decide +kernel
theorem dX3_about_5 : decode cX3_about 5 = .ok (.ifCond .eq 12, 3) := by decide +kernel
theorem dX3_about_8 : decode cX3_about 8 = .ok (.iload_n 2, 1) := by decide +kernel
theorem dX3_about_9 : decode cX3_about 9 = .ok (.iconst 0, 1) := by decide +kernel
theorem dX3_about_10 : decode cX3_about 10 = .ok (.iconst 2, 1) := by decide +kernel
theorem dX3_about_11 : decode cX3_about 11 = .ok (.invokestatic 78, 3) := by decide +kernel
theorem dX3_about_14 : decode cX3_about 14 = .ok (.ifCond .ne 6, 3) := by decide +kernel
theorem dX3_about_17 : decode cX3_about 17 = .ok (.bipush (-2), 2) := by decide +kernel
theorem dX3_about_19 : decode cX3_about 19 = .ok (.ireturn, 1) := by decide +kernel
theorem dX3_about_20 : decode cX3_about 20 = .ok (.iload_n 2, 1) := by decide +kernel
theorem dX3_about_21 : decode cX3_about 21 = .ok (.ifCond .ne 12, 3) := by decide +kernel
theorem dX3_about_24 : decode cX3_about 24 = .ok (.aload_n 0, 1) := by decide +kernel
theorem dX3_about_25 : decode cX3_about 25 = .ok (.getfield 7, 3) := by decide +kernel
theorem dX3_about_28 : decode cX3_about 28 = .ok (.iload_n 1, 1) := by decide +kernel
theorem dX3_about_29 : decode cX3_about 29 = .ok (.iaload, 1) := by decide +kernel
theorem dX3_about_30 : decode cX3_about 30 = .ok (.goto 23, 3) := by decide +kernel
theorem dX3_about_33 : decode cX3_about 33 = .ok (.iload_n 2, 1) := by decide +kernel
theorem dX3_about_34 : decode cX3_about 34 = .ok (.iconst 1, 1) := by decide +kernel
theorem dX3_about_35 : decode cX3_about 35 = .ok (.if_icmp .ne 12, 3) := by decide +kernel
theorem dX3_about_38 : decode cX3_about 38 = .ok (.aload_n 0, 1) := by decide +kernel
theorem dX3_about_39 : decode cX3_about 39 = .ok (.getfield 13, 3) := by decide +kernel
theorem dX3_about_42 : decode cX3_about 42 = .ok (.iload_n 1, 1) := by decide +kernel
theorem dX3_about_43 : decode cX3_about 43 = .ok (.iaload, 1) := by decide +kernel
theorem dX3_about_44 : decode cX3_about 44 = .ok (.goto 9, 3) := by decide +kernel
theorem dX3_about_47 : decode cX3_about 47 = .ok (.aload_n 0, 1) := by decide +kernel
theorem dX3_about_48 : decode cX3_about 48 = .ok (.getfield 19, 3) := by decide +kernel
theorem dX3_about_51 : decode cX3_about 51 = .ok (.iload_n 1, 1) := by decide +kernel
theorem dX3_about_52 : decode cX3_about 52 = .ok (.iaload, 1) := by decide +kernel
theorem dX3_about_53 : decode cX3_about 53 = .ok (.ireturn, 1) := by decide +kernel
theorem dX3_counter_0 : decode cX3_counter 0 = .ok (.iload_n 1, 1) := by decide +kernel
theorem dX3_counter_1 : decode cX3_counter 1 = .ok (.iconst 0, 1) := by decide +kernel
theorem dX3_counter_2 : decode cX3_counter 2 = .ok (.bipush 7, 2) := by decide +kernel
theorem dX3_counter_4 : decode cX3_counter 4 = .ok (.invokestatic 78, 3) := by decide +kernel
theorem dX3_counter_7 : decode cX3_counter 7 = .ok (.ifCond .eq 21, 3) := by decide +kernel
theorem dX3_counter_10 : decode cX3_counter 10 = .ok (.iload_n 2, 1) := by decide +kernel
theorem dX3_counter_11 : decode cX3_counter 11 = .ok (.iload_n 3, 1) := by decide +kernel
theorem dX3_counter_12 : decode cX3_counter 12 = .ok (.invokestatic 111, 3) := by decide +kernel
theorem dX3_counter_15 : decode cX3_counter 15 = .ok (.ifCond .eq 13, 3) := by decide +kernel
theorem dX3_counter_18 : decode cX3_counter 18 = .ok (.iload 4, 2) := by decide +kernel
theorem dX3_counter_20 : decode cX3_counter 20 = .ok (.iload 5, 2) := by decide +kernel
theorem dX3_counter_22 : decode cX3_counter 22 = .ok (.invokestatic 111, 3) := by decide +kernel
theorem dX3_counter_25 : decode cX3_counter 25 = .ok (.ifCond .ne 6, 3) := by decide +kernel
theorem dX3_counter_28 : decode cX3_counter 28 = .ok (.bipush (-2), 2) := by decide +kernel
theorem dX3_counter_30 : decode cX3_counter 30 = .ok (.ireturn, 1) := by decide +kernel
theorem dX3_counter_31 : decode cX3_counter 31 = .ok (.aload_n 0, 1) := by decide +kernel
theorem dX3_counter_32 : decode cX3_counter 32 = .ok (.getfield 25, 3) := by decide +kernel
theorem dX3_counter_35 : decode cX3_counter 35 = .ok (.iload_n 1, 1) := by decide +kernel
theorem dX3_counter_36 : decode cX3_counter 36 = .ok (.iconst 1, 1) := by decide +kernel
theorem dX3_counter_37 : decode cX3_counter 37 = .ok (.bastore, 1) := by decide +kernel
theorem dX3_counter_38 : decode cX3_counter 38 = .ok (.aload_n 0, 1) := by decide +kernel
theorem dX3_counter_39 : decode cX3_counter 39 = .ok (.getfield 29, 3) := by decide +kernel
theorem dX3_counter_42 : decode cX3_counter 42 = .ok (.iload_n 1, 1) := by decide +kernel
theorem dX3_counter_43 : decode cX3_counter 43 = .ok (.iconst 0, 1) := by decide +kernel
theorem dX3_counter_44 : decode cX3_counter 44 = .ok (.bastore, 1) := by decide +kernel
theorem dX3_counter_45 : decode cX3_counter 45 = .ok (.aload_n 0, 1) := by decide +kernel
theorem dX3_counter_46 : decode cX3_counter 46 = .ok (.getfield 32, 3) := by decide +kernel
theorem dX3_counter_49 : decode cX3_counter 49 = .ok (.iload_n 1, 1) := by decide +kernel
theorem dX3_counter_50 : decode cX3_counter 50 = .ok (.iconst 0, 1) := by decide +kernel
theorem dX3_counter_51 : decode cX3_counter 51 = .ok (.bastore, 1) := by decide +kernel
theorem dX3_counter_52 : decode cX3_counter 52 = .ok (.aload_n 0, 1) := by decide +kernel
theorem dX3_counter_53 : decode cX3_counter 53 = .ok (.getfield 35, 3) := by decide +kernel
theorem dX3_counter_56 : decode cX3_counter 56 = .ok (.iload_n 1, 1) := by decide +kernel
theorem dX3_counter_57 : decode cX3_counter 57 = .ok (.iload_n 2, 1) := by decide +kernel
theorem dX3_counter_58 : decode cX3_counter 58 = .ok (.iastore, 1) := by decide +kernel
theorem dX3_counter_59 : decode cX3_counter 59 = .ok (.aload_n 0, 1) := by decide +kernel
theorem dX3_counter_60 : decode cX3_counter 60 = .ok (.getfield 38, 3) := by decide +kernel
theorem dX3_counter_63 : decode cX3_counter 63 = .ok (.iload_n 1, 1) := by decide +kernel
theorem dX3_counter_64 : decode cX3_counter 64 = .ok (.iload_n 3, 1) := by decide +kernel
theorem dX3_counter_65 : decode cX3_counter 65 = .ok (.iastore, 1) := by decide +kernel
theorem dX3_counter_66 : decode cX3_counter 66 = .ok (.aload_n 0, 1) := by decide +kernel
theorem dX3_counter_67 : decode cX3_counter 67 = .ok (.getfield 41, 3) := by decide +kernel
theorem dX3_counter_70 : decode cX3_counter 70 = .ok (.iload_n 1, 1) := by decide +kernel
theorem dX3_counter_71 : decode cX3_counter 71 = .ok (.iload 4, 2) := by decide +kernel
theorem dX3_counter_73 : decode cX3_counter 73 = .ok (.iastore, 1) := by decide +kernel
theorem dX3_counter_74 : decode cX3_counter 74 = .ok (.aload_n 0, 1) := by decide +kernel
theorem dX3_counter_75 : decode cX3_counter 75 = .ok (.getfield 44, 3) := by decide +kernel
theorem dX3_counter_78 : decode cX3_counter 78 = .ok (.iload_n 1, 1) := by decide +kernel
theorem dX3_counter_79 : decode cX3_counter 79 = .ok (.iload 5, 2) := by decide +kernel
theorem dX3_counter_81 : decode cX3_counter 81 = .ok (.iastore, 1) := by decide +kernel
theorem dX3_counter_82 : decode cX3_counter 82 = .ok (.aload_n 0, 1) := by decide +kernel
theorem dX3_counter_83 : decode cX3_counter 83 = .ok (.getfield 47, 3) := by decide +kernel
theorem dX3_counter_86 : decode cX3_counter 86 = .ok (.iload_n 1, 1) := by decide +kernel
theorem dX3_counter_87 : decode cX3_counter 87 = .ok (.iconst 0, 1) := by decide +kernel
theorem dX3_counter_88 : decode cX3_counter 88 = .ok (.iastore, 1) := by decide +kernel
theorem dX3_counter_89 : decode cX3_counter 89 = .ok (.aload_n 0, 1) := by decide +kernel
theorem dX3_counter_90 : decode cX3_counter 90 = .ok (.getfield 50, 3) := by decide +kernel
theorem dX3_counter_93 : decode cX3_counter 93 = .ok (.iload_n 1, 1) := by decide +kernel
theorem dX3_counter_94 : decode cX3_counter 94 = .ok (.iconst 0, 1) := by decide +kernel
theorem dX3_counter_95 : decode cX3_counter 95 = .ok (.iastore, 1) := by decide +kernel
theorem dX3_counter_96 : decode cX3_counter 96 = .ok (.aload_n 0, 1) := by decide +kernel
theorem dX3_counter_97 : decode cX3_counter 97 = .ok (.getfield 53, 3) := by decide +kernel
theorem dX3_counter_100 : decode cX3_counter 100 = .ok (.iload_n 1, 1) := by decide +kernel
theorem dX3_counter_101 : decode cX3_counter 101 = .ok (.iconst (-1), 1) := by decide +kernel
theorem dX3_counter_102 : decode cX3_counter 102 = .ok (.iastore, 1) := by decide +kernel
theorem dX3_counter_103 : decode cX3_counter 103 = .ok (.aload_n 0, 1) := by decide +kernel
theorem dX3_counter_104 : decode cX3_counter 104 = .ok (.getfield 56, 3) := by decide +kernel
theorem dX3_counter_107 : decode cX3_counter 107 = .ok (.iload_n 1, 1) := by decide +kernel
theorem dX3_counter_108 : decode cX3_counter 108 = .ok (.iconst 0, 1) := by decide +kernel
theorem dX3_counter_109 : decode cX3_counter 109 = .ok (.iastore, 1) := by decide +kernel
theorem dX3_counter_110 : decode cX3_counter 110 = .ok (.aload_n 0, 1) := by decide +kernel
theorem dX3_counter_111 : decode cX3_counter 111 = .ok (.getfield 59, 3) := by decide +kernel
theorem dX3_counter_114 : decode cX3_counter 114 = .ok (.iload_n 1, 1) := by decide +kernel
theorem dX3_counter_115 : decode cX3_counter 115 = .ok (.iconst 0, 1) := by decide +kernel
theorem dX3_counter_116 : decode cX3_counter 116 = .ok (.iastore, 1) := by decide +kernel
theorem dX3_counter_117 : decode cX3_counter 117 = .ok (.iconst 1, 1) := by decide +kernel
theorem dX3_counter_118 : decode cX3_counter 118 = .ok (.ireturn, 1) := by decide +kernel
theorem dX3_isCounter_0 : decode cX3_isCounter 0 = .ok (.iload_n 1, 1) := by decide +kernel
theorem dX3_isCounter_1 : decode cX3_isCounter 1 = .ok (.iconst 0, 1) := by decide +kernel
theorem dX3_isCounter_2 : decode cX3_isCounter 2 = .ok (.bipush 7, 2) := by decide +kernel
theorem dX3_isCounter_4 : decode cX3_isCounter 4 = .ok (.invokestatic 78, 3) := by decide +kernel
theorem dX3_isCounter_7 : decode cX3_isCounter 7 = .ok (.ifCond .eq 16, 3) := by decide +kernel
theorem dX3_isCounter_10 : decode cX3_isCounter 10 = .ok (.aload_n 0, 1) := by decide +kernel
theorem dX3_isCounter_11 : decode cX3_isCounter 11 = .ok (.getfield 25, 3) := by decide +kernel
theorem dX3_isCounter_14 : decode cX3_isCounter 14 = .ok (.iload_n 1, 1) := by decide +kernel
theorem dX3_isCounter_15 : decode cX3_isCounter 15 = .ok (.baload, 1) := by decide +kernel
theorem dX3_isCounter_16 : decode cX3_isCounter 16 = .ok (.ifCond .eq 7, 3) := by decide +kernel
theorem dX3_isCounter_19 : decode cX3_isCounter 19 = .ok (.iconst 1, 1) := by decide +kernel
theorem dX3_isCounter_20 : decode cX3_isCounter 20 = .ok (.goto 4, 3) := by decide +kernel
theorem dX3_isCounter_23 : decode cX3_isCounter 23 = .ok (.iconst 0, 1) := by decide +kernel
theorem dX3_isCounter_24 : decode cX3_isCounter 24 = .ok (.ireturn, 1) := by decide +kernel
theorem dX3_job_0 : decode cX3_job 0 = .ok (.aload_n 0, 1) := by decide +kernel
theorem dX3_job_1 : decode cX3_job 1 = .ok (.iload_n 1, 1) := by decide +kernel
theorem dX3_job_2 : decode cX3_job 2 = .ok (.invokevirtual 114, 3) := by decide +kernel
theorem dX3_job_5 : decode cX3_job 5 = .ok (.ifCond .eq 37, 3) := by decide +kernel
theorem dX3_job_8 : decode cX3_job 8 = .ok (.iload_n 2, 1) := by decide +kernel
theorem dX3_job_9 : decode cX3_job 9 = .ok (.iconst 0, 1) := by decide +kernel
theorem dX3_job_10 : decode cX3_job 10 = .ok (.iconst 5, 1) := by decide +kernel
theorem dX3_job_11 : decode cX3_job 11 = .ok (.invokestatic 78, 3) := by decide +kernel
theorem dX3_job_14 : decode cX3_job 14 = .ok (.ifCond .eq 28, 3) := by decide +kernel
theorem dX3_job_17 : decode cX3_job 17 = .ok (.iload 4, 2) := by decide +kernel
theorem dX3_job_19 : decode cX3_job 19 = .ok (.iconst (-1), 1) := by decide +kernel
theorem dX3_job_20 : decode cX3_job 20 = .ok (.if_icmp .eq 12, 3) := by decide +kernel
theorem dX3_job_23 : decode cX3_job 23 = .ok (.aload_n 0, 1) := by decide +kernel
theorem dX3_job_24 : decode cX3_job 24 = .ok (.iload 4, 2) := by decide +kernel
theorem dX3_job_26 : decode cX3_job 26 = .ok (.invokevirtual 97, 3) := by decide +kernel
theorem dX3_job_29 : decode cX3_job 29 = .ok (.ifCond .eq 13, 3) := by decide +kernel
theorem dX3_job_32 : decode cX3_job 32 = .ok (.iload 5, 2) := by decide +kernel
theorem dX3_job_34 : decode cX3_job 34 = .ok (.iconst 0, 1) := by decide +kernel
theorem dX3_job_35 : decode cX3_job 35 = .ok (.iconst 1, 1) := by decide +kernel
theorem dX3_job_36 : decode cX3_job 36 = .ok (.invokestatic 78, 3) := by decide +kernel
theorem dX3_job_39 : decode cX3_job 39 = .ok (.ifCond .ne 6, 3) := by decide +kernel
theorem dX3_job_42 : decode cX3_job 42 = .ok (.bipush (-2), 2) := by decide +kernel
theorem dX3_job_44 : decode cX3_job 44 = .ok (.ireturn, 1) := by decide +kernel
theorem dX3_job_45 : decode cX3_job 45 = .ok (.iload_n 2, 1) := by decide +kernel
theorem dX3_job_46 : decode cX3_job 46 = .ok (.iconst 2, 1) := by decide +kernel
theorem dX3_job_47 : decode cX3_job 47 = .ok (.iconst 4, 1) := by decide +kernel
theorem dX3_job_48 : decode cX3_job 48 = .ok (.invokestatic 78, 3) := by decide +kernel
theorem dX3_job_51 : decode cX3_job 51 = .ok (.ifCond .eq 35, 3) := by decide +kernel
theorem dX3_job_54 : decode cX3_job 54 = .ok (.aload_n 0, 1) := by decide +kernel
theorem dX3_job_55 : decode cX3_job 55 = .ok (.getfield 44, 3) := by decide +kernel
theorem dX3_job_58 : decode cX3_job 58 = .ok (.iload_n 1, 1) := by decide +kernel
theorem dX3_job_59 : decode cX3_job 59 = .ok (.iaload, 1) := by decide +kernel
theorem dX3_job_60 : decode cX3_job 60 = .ok (.ifCond .eq 23, 3) := by decide +kernel
theorem dX3_job_63 : decode cX3_job 63 = .ok (.aload_n 0, 1) := by decide +kernel
theorem dX3_job_64 : decode cX3_job 64 = .ok (.getfield 41, 3) := by decide +kernel
theorem dX3_job_67 : decode cX3_job 67 = .ok (.iload_n 1, 1) := by decide +kernel
theorem dX3_job_68 : decode cX3_job 68 = .ok (.iaload, 1) := by decide +kernel
theorem dX3_job_69 : decode cX3_job 69 = .ok (.iconst 3, 1) := by decide +kernel
theorem dX3_job_70 : decode cX3_job 70 = .ok (.if_icmp .le 16, 3) := by decide +kernel
theorem dX3_job_73 : decode cX3_job 73 = .ok (.aload_n 0, 1) := by decide +kernel
theorem dX3_job_74 : decode cX3_job 74 = .ok (.getfield 44, 3) := by decide +kernel
theorem dX3_job_77 : decode cX3_job 77 = .ok (.iload_n 1, 1) := by decide +kernel
theorem dX3_job_78 : decode cX3_job 78 = .ok (.iaload, 1) := by decide +kernel
theorem dX3_job_79 : decode cX3_job 79 = .ok (.iconst 1, 1) := by decide +kernel
theorem dX3_job_80 : decode cX3_job 80 = .ok (.if_icmp .ne 6, 3) := by decide +kernel
theorem dX3_job_83 : decode cX3_job 83 = .ok (.bipush (-2), 2) := by decide +kernel
theorem dX3_job_85 : decode cX3_job 85 = .ok (.ireturn, 1) := by decide +kernel
theorem dX3_job_86 : decode cX3_job 86 = .ok (.aload_n 0, 1) := by decide +kernel
theorem dX3_job_87 : decode cX3_job 87 = .ok (.getfield 47, 3) := by decide +kernel
theorem dX3_job_90 : decode cX3_job 90 = .ok (.iload_n 1, 1) := by decide +kernel
theorem dX3_job_91 : decode cX3_job 91 = .ok (.iload_n 2, 1) := by decide +kernel
theorem dX3_job_92 : decode cX3_job 92 = .ok (.iastore, 1) := by decide +kernel
theorem dX3_job_93 : decode cX3_job 93 = .ok (.aload_n 0, 1) := by decide +kernel
theorem dX3_job_94 : decode cX3_job 94 = .ok (.getfield 50, 3) := by decide +kernel
theorem dX3_job_97 : decode cX3_job 97 = .ok (.iload_n 1, 1) := by decide +kernel
theorem dX3_job_98 : decode cX3_job 98 = .ok (.iload_n 3, 1) := by decide +kernel
theorem dX3_job_99 : decode cX3_job 99 = .ok (.iastore, 1) := by decide +kernel
theorem dX3_job_100 : decode cX3_job 100 = .ok (.aload_n 0, 1) := by decide +kernel
theorem dX3_job_101 : decode cX3_job 101 = .ok (.getfield 53, 3) := by decide +kernel
theorem dX3_job_104 : decode cX3_job 104 = .ok (.iload_n 1, 1) := by decide +kernel
theorem dX3_job_105 : decode cX3_job 105 = .ok (.iload 4, 2) := by decide +kernel
theorem dX3_job_107 : decode cX3_job 107 = .ok (.iastore, 1) := by decide +kernel
theorem dX3_job_108 : decode cX3_job 108 = .ok (.aload_n 0, 1) := by decide +kernel
theorem dX3_job_109 : decode cX3_job 109 = .ok (.getfield 32, 3) := by decide +kernel
theorem dX3_job_112 : decode cX3_job 112 = .ok (.iload_n 1, 1) := by decide +kernel
theorem dX3_job_113 : decode cX3_job 113 = .ok (.iload 5, 2) := by decide +kernel
theorem dX3_job_115 : decode cX3_job 115 = .ok (.iconst 1, 1) := by decide +kernel
theorem dX3_job_116 : decode cX3_job 116 = .ok (.if_icmp .ne 7, 3) := by decide +kernel
theorem dX3_job_119 : decode cX3_job 119 = .ok (.iconst 1, 1) := by decide +kernel
theorem dX3_job_120 : decode cX3_job 120 = .ok (.goto 4, 3) := by decide +kernel
theorem dX3_job_123 : decode cX3_job 123 = .ok (.iconst 0, 1) := by decide +kernel
theorem dX3_job_124 : decode cX3_job 124 = .ok (.bastore, 1) := by decide +kernel
theorem dX3_job_125 : decode cX3_job 125 = .ok (.iconst 1, 1) := by decide +kernel
theorem dX3_job_126 : decode cX3_job 126 = .ok (.ireturn, 1) := by decide +kernel
theorem dX3_shut_0 : decode cX3_shut 0 = .ok (.aload_n 0, 1) := by decide +kernel
theorem dX3_shut_1 : decode cX3_shut 1 = .ok (.iload_n 1, 1) := by decide +kernel
theorem dX3_shut_2 : decode cX3_shut 2 = .ok (.invokevirtual 114, 3) := by decide +kernel
theorem dX3_shut_5 : decode cX3_shut 5 = .ok (.ifCond .ne 6, 3) := by decide +kernel
theorem dX3_shut_8 : decode cX3_shut 8 = .ok (.bipush (-2), 2) := by decide +kernel
theorem dX3_shut_10 : decode cX3_shut 10 = .ok (.ireturn, 1) := by decide +kernel
theorem dX3_shut_11 : decode cX3_shut 11 = .ok (.aload_n 0, 1) := by decide +kernel
theorem dX3_shut_12 : decode cX3_shut 12 = .ok (.getfield 29, 3) := by decide +kernel
theorem dX3_shut_15 : decode cX3_shut 15 = .ok (.iload_n 1, 1) := by decide +kernel
theorem dX3_shut_16 : decode cX3_shut 16 = .ok (.baload, 1) := by decide +kernel
theorem dX3_shut_17 : decode cX3_shut 17 = .ok (.ifCond .eq 7, 3) := by decide +kernel
theorem dX3_shut_20 : decode cX3_shut 20 = .ok (.iconst 1, 1) := by decide +kernel
theorem dX3_shut_21 : decode cX3_shut 21 = .ok (.goto 4, 3) := by decide +kernel
theorem dX3_shut_24 : decode cX3_shut 24 = .ok (.iconst 0, 1) := by decide +kernel
theorem dX3_shut_25 : decode cX3_shut 25 = .ok (.istore_n 3, 1) := by decide +kernel
theorem dX3_shut_26 : decode cX3_shut 26 = .ok (.aload_n 0, 1) := by decide +kernel
theorem dX3_shut_27 : decode cX3_shut 27 = .ok (.getfield 29, 3) := by decide +kernel
theorem dX3_shut_30 : decode cX3_shut 30 = .ok (.iload_n 1, 1) := by decide +kernel
theorem dX3_shut_31 : decode cX3_shut 31 = .ok (.iload_n 2, 1) := by decide +kernel
theorem dX3_shut_32 : decode cX3_shut 32 = .ok (.bastore, 1) := by decide +kernel
theorem dX3_shut_33 : decode cX3_shut 33 = .ok (.iload_n 3, 1) := by decide +kernel
theorem dX3_shut_34 : decode cX3_shut 34 = .ok (.ireturn, 1) := by decide +kernel
theorem dX3_begin_0 : decode cX3_begin 0 = .ok (.aload_n 0, 1) := by decide +kernel
theorem dX3_begin_1 : decode cX3_begin 1 = .ok (.getfield 62, 3) := by decide +kernel
theorem dX3_begin_4 : decode cX3_begin 4 = .ok (.aload_n 0, 1) := by decide +kernel
theorem dX3_begin_5 : decode cX3_begin 5 = .ok (.getfield 117, 3) := by decide +kernel
theorem dX3_begin_8 : decode cX3_begin 8 = .ok (.iload_n 1, 1) := by decide +kernel
theorem dX3_begin_9 : decode cX3_begin 9 = .ok (.iastore, 1) := by decide +kernel
theorem dX3_begin_10 : decode cX3_begin 10 = .ok (.aload_n 0, 1) := by decide +kernel
theorem dX3_begin_11 : decode cX3_begin 11 = .ok (.getfield 65, 3) := by decide +kernel
theorem dX3_begin_14 : decode cX3_begin 14 = .ok (.aload_n 0, 1) := by decide +kernel
theorem dX3_begin_15 : decode cX3_begin 15 = .ok (.getfield 117, 3) := by decide +kernel
theorem dX3_begin_18 : decode cX3_begin 18 = .ok (.iload_n 2, 1) := by decide +kernel
theorem dX3_begin_19 : decode cX3_begin 19 = .ok (.iastore, 1) := by decide +kernel
theorem dX3_begin_20 : decode cX3_begin 20 = .ok (.aload_n 0, 1) := by decide +kernel
theorem dX3_begin_21 : decode cX3_begin 21 = .ok (.getfield 68, 3) := by decide +kernel
theorem dX3_begin_24 : decode cX3_begin 24 = .ok (.aload_n 0, 1) := by decide +kernel
theorem dX3_begin_25 : decode cX3_begin 25 = .ok (.getfield 117, 3) := by decide +kernel
theorem dX3_begin_28 : decode cX3_begin 28 = .ok (.iconst (-1), 1) := by decide +kernel
theorem dX3_begin_29 : decode cX3_begin 29 = .ok (.iastore, 1) := by decide +kernel
theorem dX3_begin_30 : decode cX3_begin 30 = .ok (.aload_n 0, 1) := by decide +kernel
theorem dX3_begin_31 : decode cX3_begin 31 = .ok (.dup, 1) := by decide +kernel
theorem dX3_begin_32 : decode cX3_begin 32 = .ok (.getfield 117, 3) := by decide +kernel
theorem dX3_begin_35 : decode cX3_begin 35 = .ok (.iconst 1, 1) := by decide +kernel
theorem dX3_begin_36 : decode cX3_begin 36 = .ok (.iadd, 1) := by decide +kernel
theorem dX3_begin_37 : decode cX3_begin 37 = .ok (.putfield 117, 3) := by decide +kernel
theorem dX3_begin_40 : decode cX3_begin 40 = .ok (.return_, 1) := by decide +kernel
theorem dX3_meeting_0 : decode cX3_meeting 0 = .ok (.iload_n 2, 1) := by decide +kernel
theorem dX3_meeting_1 : decode cX3_meeting 1 = .ok (.istore_n 3, 1) := by decide +kernel
theorem dX3_meeting_2 : decode cX3_meeting 2 = .ok (.iload_n 3, 1) := by decide +kernel
theorem dX3_meeting_3 : decode cX3_meeting 3 = .ok (.bipush 8, 2) := by decide +kernel
theorem dX3_meeting_5 : decode cX3_meeting 5 = .ok (.if_icmp .ge 49, 3) := by decide +kernel
theorem dX3_meeting_8 : decode cX3_meeting 8 = .ok (.aload_n 0, 1) := by decide +kernel
theorem dX3_meeting_9 : decode cX3_meeting 9 = .ok (.getfield 25, 3) := by decide +kernel
theorem dX3_meeting_12 : decode cX3_meeting 12 = .ok (.iload_n 3, 1) := by decide +kernel
theorem dX3_meeting_13 : decode cX3_meeting 13 = .ok (.baload, 1) := by decide +kernel
theorem dX3_meeting_14 : decode cX3_meeting 14 = .ok (.ifCond .eq 34, 3) := by decide +kernel
theorem dX3_meeting_17 : decode cX3_meeting 17 = .ok (.aload_n 0, 1) := by decide +kernel
theorem dX3_meeting_18 : decode cX3_meeting 18 = .ok (.getfield 29, 3) := by decide +kernel
theorem dX3_meeting_21 : decode cX3_meeting 21 = .ok (.iload_n 3, 1) := by decide +kernel
theorem dX3_meeting_22 : decode cX3_meeting 22 = .ok (.baload, 1) := by decide +kernel
theorem dX3_meeting_23 : decode cX3_meeting 23 = .ok (.ifCond .ne 25, 3) := by decide +kernel
theorem dX3_meeting_26 : decode cX3_meeting 26 = .ok (.aload_n 0, 1) := by decide +kernel
theorem dX3_meeting_27 : decode cX3_meeting 27 = .ok (.iload_n 1, 1) := by decide +kernel
theorem dX3_meeting_28 : decode cX3_meeting 28 = .ok (.aload_n 0, 1) := by decide +kernel
theorem dX3_meeting_29 : decode cX3_meeting 29 = .ok (.getfield 35, 3) := by decide +kernel
theorem dX3_meeting_32 : decode cX3_meeting 32 = .ok (.iload_n 3, 1) := by decide +kernel
theorem dX3_meeting_33 : decode cX3_meeting 33 = .ok (.iaload, 1) := by decide +kernel
theorem dX3_meeting_34 : decode cX3_meeting 34 = .ok (.aload_n 0, 1) := by decide +kernel
theorem dX3_meeting_35 : decode cX3_meeting 35 = .ok (.getfield 38, 3) := by decide +kernel
theorem dX3_meeting_38 : decode cX3_meeting 38 = .ok (.iload_n 3, 1) := by decide +kernel
theorem dX3_meeting_39 : decode cX3_meeting 39 = .ok (.iaload, 1) := by decide +kernel
theorem dX3_meeting_40 : decode cX3_meeting 40 = .ok (.invokevirtual 90, 3) := by decide +kernel
theorem dX3_meeting_43 : decode cX3_meeting 43 = .ok (.ifCond .eq 5, 3) := by decide +kernel
theorem dX3_meeting_46 : decode cX3_meeting 46 = .ok (.iload_n 3, 1) := by decide +kernel
theorem dX3_meeting_47 : decode cX3_meeting 47 = .ok (.ireturn, 1) := by decide +kernel
theorem dX3_meeting_48 : decode cX3_meeting 48 = .ok (.iinc 3 1, 3) := by decide +kernel
theorem dX3_meeting_51 : decode cX3_meeting 51 = .ok (.goto (-49), 3) := by decide +kernel
theorem dX3_meeting_54 : decode cX3_meeting 54 = .ok (.iconst (-1), 1) := by decide +kernel
theorem dX3_meeting_55 : decode cX3_meeting 55 = .ok (.ireturn, 1) := by decide +kernel
theorem dX3_mark_0 : decode cX3_mark 0 = .ok (.aload_n 0, 1) := by decide +kernel
theorem dX3_mark_1 : decode cX3_mark 1 = .ok (.getfield 13, 3) := by decide +kernel
theorem dX3_mark_4 : decode cX3_mark 4 = .ok (.iload_n 2, 1) := by decide +kernel
theorem dX3_mark_5 : decode cX3_mark 5 = .ok (.iaload, 1) := by decide +kernel
theorem dX3_mark_6 : decode cX3_mark 6 = .ok (.ifCond .ne 66, 3) := by decide +kernel
theorem dX3_mark_9 : decode cX3_mark 9 = .ok (.aload_n 0, 1) := by decide +kernel
theorem dX3_mark_10 : decode cX3_mark 10 = .ok (.getfield 41, 3) := by decide +kernel
theorem dX3_mark_13 : decode cX3_mark 13 = .ok (.iload_n 1, 1) := by decide +kernel
theorem dX3_mark_14 : decode cX3_mark 14 = .ok (.iaload, 1) := by decide +kernel
theorem dX3_mark_15 : decode cX3_mark 15 = .ok (.iconst 3, 1) := by decide +kernel
theorem dX3_mark_16 : decode cX3_mark 16 = .ok (.if_icmp .ne 21, 3) := by decide +kernel
theorem dX3_mark_19 : decode cX3_mark 19 = .ok (.aload_n 0, 1) := by decide +kernel
theorem dX3_mark_20 : decode cX3_mark 20 = .ok (.getfield 16, 3) := by decide +kernel
theorem dX3_mark_23 : decode cX3_mark 23 = .ok (.iload_n 2, 1) := by decide +kernel
theorem dX3_mark_24 : decode cX3_mark 24 = .ok (.dup2, 1) := by decide +kernel
theorem dX3_mark_25 : decode cX3_mark 25 = .ok (.iaload, 1) := by decide +kernel
theorem dX3_mark_26 : decode cX3_mark 26 = .ok (.aload_n 0, 1) := by decide +kernel
theorem dX3_mark_27 : decode cX3_mark 27 = .ok (.getfield 50, 3) := by decide +kernel
theorem dX3_mark_30 : decode cX3_mark 30 = .ok (.iload_n 1, 1) := by decide +kernel
theorem dX3_mark_31 : decode cX3_mark 31 = .ok (.iaload, 1) := by decide +kernel
theorem dX3_mark_32 : decode cX3_mark 32 = .ok (.isub, 1) := by decide +kernel
theorem dX3_mark_33 : decode cX3_mark 33 = .ok (.iastore, 1) := by decide +kernel
theorem dX3_mark_34 : decode cX3_mark 34 = .ok (.goto 36, 3) := by decide +kernel
theorem dX3_mark_37 : decode cX3_mark 37 = .ok (.aload_n 0, 1) := by decide +kernel
theorem dX3_mark_38 : decode cX3_mark 38 = .ok (.getfield 16, 3) := by decide +kernel
theorem dX3_mark_41 : decode cX3_mark 41 = .ok (.iload_n 2, 1) := by decide +kernel
theorem dX3_mark_42 : decode cX3_mark 42 = .ok (.aload_n 0, 1) := by decide +kernel
theorem dX3_mark_43 : decode cX3_mark 43 = .ok (.getfield 7, 3) := by decide +kernel
theorem dX3_mark_46 : decode cX3_mark 46 = .ok (.iload_n 2, 1) := by decide +kernel
theorem dX3_mark_47 : decode cX3_mark 47 = .ok (.iaload, 1) := by decide +kernel
theorem dX3_mark_48 : decode cX3_mark 48 = .ok (.iconst 1, 1) := by decide +kernel
theorem dX3_mark_49 : decode cX3_mark 49 = .ok (.if_icmp .ne 14, 3) := by decide +kernel
theorem dX3_mark_52 : decode cX3_mark 52 = .ok (.iconst 2, 1) := by decide +kernel
theorem dX3_mark_53 : decode cX3_mark 53 = .ok (.aload_n 0, 1) := by decide +kernel
theorem dX3_mark_54 : decode cX3_mark 54 = .ok (.getfield 50, 3) := by decide +kernel
theorem dX3_mark_57 : decode cX3_mark 57 = .ok (.iload_n 1, 1) := by decide +kernel
theorem dX3_mark_58 : decode cX3_mark 58 = .ok (.iaload, 1) := by decide +kernel
theorem dX3_mark_59 : decode cX3_mark 59 = .ok (.imul, 1) := by decide +kernel
theorem dX3_mark_60 : decode cX3_mark 60 = .ok (.goto 9, 3) := by decide +kernel
theorem dX3_mark_63 : decode cX3_mark 63 = .ok (.aload_n 0, 1) := by decide +kernel
theorem dX3_mark_64 : decode cX3_mark 64 = .ok (.getfield 50, 3) := by decide +kernel
theorem dX3_mark_67 : decode cX3_mark 67 = .ok (.iload_n 1, 1) := by decide +kernel
theorem dX3_mark_68 : decode cX3_mark 68 = .ok (.iaload, 1) := by decide +kernel
theorem dX3_mark_69 : decode cX3_mark 69 = .ok (.iastore, 1) := by decide +kernel
theorem dX3_mark_70 : decode cX3_mark 70 = .ok (.iconst 0, 1) := by decide +kernel
theorem dX3_mark_71 : decode cX3_mark 71 = .ok (.ireturn, 1) := by decide +kernel
theorem dX3_mark_72 : decode cX3_mark 72 = .ok (.aload_n 0, 1) := by decide +kernel
theorem dX3_mark_73 : decode cX3_mark 73 = .ok (.iload_n 2, 1) := by decide +kernel
theorem dX3_mark_74 : decode cX3_mark 74 = .ok (.invokevirtual 86, 3) := by decide +kernel
theorem dX3_mark_77 : decode cX3_mark 77 = .ok (.ifCond .eq 49, 3) := by decide +kernel
theorem dX3_mark_80 : decode cX3_mark 80 = .ok (.iconst 0, 1) := by decide +kernel
theorem dX3_mark_81 : decode cX3_mark 81 = .ok (.istore_n 3, 1) := by decide +kernel
theorem dX3_mark_82 : decode cX3_mark 82 = .ok (.iload_n 3, 1) := by decide +kernel
theorem dX3_mark_83 : decode cX3_mark 83 = .ok (.aload_n 0, 1) := by decide +kernel
theorem dX3_mark_84 : decode cX3_mark 84 = .ok (.getfield 19, 3) := by decide +kernel
theorem dX3_mark_87 : decode cX3_mark 87 = .ok (.iload_n 2, 1) := by decide +kernel
theorem dX3_mark_88 : decode cX3_mark 88 = .ok (.iaload, 1) := by decide +kernel
theorem dX3_mark_89 : decode cX3_mark 89 = .ok (.if_icmp .ge 35, 3) := by decide +kernel
theorem dX3_mark_92 : decode cX3_mark 92 = .ok (.aload_n 0, 1) := by decide +kernel
theorem dX3_mark_93 : decode cX3_mark 93 = .ok (.getfield 22, 3) := by decide +kernel
theorem dX3_mark_96 : decode cX3_mark 96 = .ok (.bipush 8, 2) := by decide +kernel
theorem dX3_mark_98 : decode cX3_mark 98 = .ok (.iload_n 2, 1) := by decide +kernel
theorem dX3_mark_99 : decode cX3_mark 99 = .ok (.imul, 1) := by decide +kernel
theorem dX3_mark_100 : decode cX3_mark 100 = .ok (.iload_n 3, 1) := by decide +kernel
theorem dX3_mark_101 : decode cX3_mark 101 = .ok (.iadd, 1) := by decide +kernel
theorem dX3_mark_102 : decode cX3_mark 102 = .ok (.aload_n 0, 1) := by decide +kernel
theorem dX3_mark_103 : decode cX3_mark 103 = .ok (.getfield 7, 3) := by decide +kernel
theorem dX3_mark_106 : decode cX3_mark 106 = .ok (.iload_n 2, 1) := by decide +kernel
theorem dX3_mark_107 : decode cX3_mark 107 = .ok (.iaload, 1) := by decide +kernel
theorem dX3_mark_108 : decode cX3_mark 108 = .ok (.aload_n 0, 1) := by decide +kernel
theorem dX3_mark_109 : decode cX3_mark 109 = .ok (.getfield 50, 3) := by decide +kernel
theorem dX3_mark_112 : decode cX3_mark 112 = .ok (.iload_n 1, 1) := by decide +kernel
theorem dX3_mark_113 : decode cX3_mark 113 = .ok (.iaload, 1) := by decide +kernel
theorem dX3_mark_114 : decode cX3_mark 114 = .ok (.invokestatic 107, 3) := by decide +kernel
theorem dX3_mark_117 : decode cX3_mark 117 = .ok (.iastore, 1) := by decide +kernel
theorem dX3_mark_118 : decode cX3_mark 118 = .ok (.iinc 3 1, 3) := by decide +kernel
theorem dX3_mark_121 : decode cX3_mark 121 = .ok (.goto (-39), 3) := by decide +kernel
theorem dX3_mark_124 : decode cX3_mark 124 = .ok (.iconst 0, 1) := by decide +kernel
theorem dX3_mark_125 : decode cX3_mark 125 = .ok (.ireturn, 1) := by decide +kernel
theorem dX3_mark_126 : decode cX3_mark 126 = .ok (.aload_n 0, 1) := by decide +kernel
theorem dX3_mark_127 : decode cX3_mark 127 = .ok (.getfield 19, 3) := by decide +kernel
theorem dX3_mark_130 : decode cX3_mark 130 = .ok (.iload_n 2, 1) := by decide +kernel
theorem dX3_mark_131 : decode cX3_mark 131 = .ok (.iaload, 1) := by decide +kernel
theorem dX3_mark_132 : decode cX3_mark 132 = .ok (.ifCond .ne 5, 3) := by decide +kernel
theorem dX3_mark_135 : decode cX3_mark 135 = .ok (.iconst 2, 1) := by decide +kernel
theorem dX3_mark_136 : decode cX3_mark 136 = .ok (.ireturn, 1) := by decide +kernel
theorem dX3_mark_137 : decode cX3_mark 137 = .ok (.aload_n 0, 1) := by decide +kernel
theorem dX3_mark_138 : decode cX3_mark 138 = .ok (.getfield 22, 3) := by decide +kernel
theorem dX3_mark_141 : decode cX3_mark 141 = .ok (.bipush 8, 2) := by decide +kernel
theorem dX3_mark_143 : decode cX3_mark 143 = .ok (.iload_n 2, 1) := by decide +kernel
theorem dX3_mark_144 : decode cX3_mark 144 = .ok (.imul, 1) := by decide +kernel
theorem dX3_mark_145 : decode cX3_mark 145 = .ok (.iconst (-1), 1) := by decide +kernel
theorem dX3_mark_146 : decode cX3_mark 146 = .ok (.iastore, 1) := by decide +kernel
theorem dX3_mark_147 : decode cX3_mark 147 = .ok (.iconst 0, 1) := by decide +kernel
theorem dX3_mark_148 : decode cX3_mark 148 = .ok (.ireturn, 1) := by decide +kernel
theorem dX3_lay_0 : decode cX3_lay 0 = .ok (.aload_n 0, 1) := by decide +kernel
theorem dX3_lay_1 : decode cX3_lay 1 = .ok (.getfield 53, 3) := by decide +kernel
theorem dX3_lay_4 : decode cX3_lay 4 = .ok (.iload_n 1, 1) := by decide +kernel
theorem dX3_lay_5 : decode cX3_lay 5 = .ok (.iaload, 1) := by decide +kernel
theorem dX3_lay_6 : decode cX3_lay 6 = .ok (.istore_n 3, 1) := by decide +kernel
theorem dX3_lay_7 : decode cX3_lay 7 = .ok (.iload_n 3, 1) := by decide +kernel
theorem dX3_lay_8 : decode cX3_lay 8 = .ok (.iconst (-1), 1) := by decide +kernel
theorem dX3_lay_9 : decode cX3_lay 9 = .ok (.if_icmp .eq 27, 3) := by decide +kernel
theorem dX3_lay_12 : decode cX3_lay 12 = .ok (.aload_n 0, 1) := by decide +kernel
theorem dX3_lay_13 : decode cX3_lay 13 = .ok (.iload_n 3, 1) := by decide +kernel
theorem dX3_lay_14 : decode cX3_lay 14 = .ok (.aload_n 0, 1) := by decide +kernel
theorem dX3_lay_15 : decode cX3_lay 15 = .ok (.getfield 41, 3) := by decide +kernel
theorem dX3_lay_18 : decode cX3_lay 18 = .ok (.iload_n 1, 1) := by decide +kernel
theorem dX3_lay_19 : decode cX3_lay 19 = .ok (.iaload, 1) := by decide +kernel
theorem dX3_lay_20 : decode cX3_lay 20 = .ok (.aload_n 0, 1) := by decide +kernel
theorem dX3_lay_21 : decode cX3_lay 21 = .ok (.getfield 44, 3) := by decide +kernel
theorem dX3_lay_24 : decode cX3_lay 24 = .ok (.iload_n 1, 1) := by decide +kernel
theorem dX3_lay_25 : decode cX3_lay 25 = .ok (.iaload, 1) := by decide +kernel
theorem dX3_lay_26 : decode cX3_lay 26 = .ok (.iconst 1, 1) := by decide +kernel
theorem dX3_lay_27 : decode cX3_lay 27 = .ok (.isub, 1) := by decide +kernel
theorem dX3_lay_28 : decode cX3_lay 28 = .ok (.invokevirtual 90, 3) := by decide +kernel
theorem dX3_lay_31 : decode cX3_lay 31 = .ok (.ifCond .ne 5, 3) := by decide +kernel
theorem dX3_lay_34 : decode cX3_lay 34 = .ok (.iconst 1, 1) := by decide +kernel
theorem dX3_lay_35 : decode cX3_lay 35 = .ok (.ireturn, 1) := by decide +kernel
theorem dX3_lay_36 : decode cX3_lay 36 = .ok (.aload_n 0, 1) := by decide +kernel
theorem dX3_lay_37 : decode cX3_lay 37 = .ok (.getfield 50, 3) := by decide +kernel
theorem dX3_lay_40 : decode cX3_lay 40 = .ok (.iload_n 1, 1) := by decide +kernel
theorem dX3_lay_41 : decode cX3_lay 41 = .ok (.iaload, 1) := by decide +kernel
theorem dX3_lay_42 : decode cX3_lay 42 = .ok (.iconst 0, 1) := by decide +kernel
theorem dX3_lay_43 : decode cX3_lay 43 = .ok (.aload_n 0, 1) := by decide +kernel
theorem dX3_lay_44 : decode cX3_lay 44 = .ok (.getfield 19, 3) := by decide +kernel
theorem dX3_lay_47 : decode cX3_lay 47 = .ok (.iload_n 2, 1) := by decide +kernel
theorem dX3_lay_48 : decode cX3_lay 48 = .ok (.iaload, 1) := by decide +kernel
theorem dX3_lay_49 : decode cX3_lay 49 = .ok (.iconst 1, 1) := by decide +kernel
theorem dX3_lay_50 : decode cX3_lay 50 = .ok (.isub, 1) := by decide +kernel
theorem dX3_lay_51 : decode cX3_lay 51 = .ok (.invokestatic 78, 3) := by decide +kernel
theorem dX3_lay_54 : decode cX3_lay 54 = .ok (.ifCond .ne 5, 3) := by decide +kernel
theorem dX3_lay_57 : decode cX3_lay 57 = .ok (.iconst 2, 1) := by decide +kernel
theorem dX3_lay_58 : decode cX3_lay 58 = .ok (.ireturn, 1) := by decide +kernel
theorem dX3_lay_59 : decode cX3_lay 59 = .ok (.aload_n 0, 1) := by decide +kernel
theorem dX3_lay_60 : decode cX3_lay 60 = .ok (.iload_n 2, 1) := by decide +kernel
theorem dX3_lay_61 : decode cX3_lay 61 = .ok (.iload_n 3, 1) := by decide +kernel
theorem dX3_lay_62 : decode cX3_lay 62 = .ok (.invokevirtual 103, 3) := by decide +kernel
theorem dX3_lay_65 : decode cX3_lay 65 = .ok (.ifCond .ne 5, 3) := by decide +kernel
theorem dX3_lay_68 : decode cX3_lay 68 = .ok (.iconst 3, 1) := by decide +kernel
theorem dX3_lay_69 : decode cX3_lay 69 = .ok (.ireturn, 1) := by decide +kernel
theorem dX3_lay_70 : decode cX3_lay 70 = .ok (.aload_n 0, 1) := by decide +kernel
theorem dX3_lay_71 : decode cX3_lay 71 = .ok (.getfield 22, 3) := by decide +kernel
theorem dX3_lay_74 : decode cX3_lay 74 = .ok (.bipush 8, 2) := by decide +kernel
theorem dX3_lay_76 : decode cX3_lay 76 = .ok (.iload_n 2, 1) := by decide +kernel
theorem dX3_lay_77 : decode cX3_lay 77 = .ok (.imul, 1) := by decide +kernel
theorem dX3_lay_78 : decode cX3_lay 78 = .ok (.aload_n 0, 1) := by decide +kernel
theorem dX3_lay_79 : decode cX3_lay 79 = .ok (.getfield 50, 3) := by decide +kernel
theorem dX3_lay_82 : decode cX3_lay 82 = .ok (.iload_n 1, 1) := by decide +kernel
theorem dX3_lay_83 : decode cX3_lay 83 = .ok (.iaload, 1) := by decide +kernel
theorem dX3_lay_84 : decode cX3_lay 84 = .ok (.iadd, 1) := by decide +kernel
theorem dX3_lay_85 : decode cX3_lay 85 = .ok (.iload_n 3, 1) := by decide +kernel
theorem dX3_lay_86 : decode cX3_lay 86 = .ok (.iastore, 1) := by decide +kernel
theorem dX3_lay_87 : decode cX3_lay 87 = .ok (.iconst 0, 1) := by decide +kernel
theorem dX3_lay_88 : decode cX3_lay 88 = .ok (.ireturn, 1) := by decide +kernel
theorem dX3_spreads_0 : decode cX3_spreads 0 = .ok (.aload_n 0, 1) := by decide +kernel
theorem dX3_spreads_1 : decode cX3_spreads 1 = .ok (.getfield 62, 3) := by decide +kernel
theorem dX3_spreads_4 : decode cX3_spreads 4 = .ok (.iload_n 1, 1) := by decide +kernel
theorem dX3_spreads_5 : decode cX3_spreads 5 = .ok (.iaload, 1) := by decide +kernel
theorem dX3_spreads_6 : decode cX3_spreads 6 = .ok (.istore_n 2, 1) := by decide +kernel
theorem dX3_spreads_7 : decode cX3_spreads 7 = .ok (.aload_n 0, 1) := by decide +kernel
theorem dX3_spreads_8 : decode cX3_spreads 8 = .ok (.getfield 68, 3) := by decide +kernel
theorem dX3_spreads_11 : decode cX3_spreads 11 = .ok (.iload_n 1, 1) := by decide +kernel
theorem dX3_spreads_12 : decode cX3_spreads 12 = .ok (.iaload, 1) := by decide +kernel
theorem dX3_spreads_13 : decode cX3_spreads 13 = .ok (.istore_n 3, 1) := by decide +kernel
theorem dX3_spreads_14 : decode cX3_spreads 14 = .ok (.aload_n 0, 1) := by decide +kernel
theorem dX3_spreads_15 : decode cX3_spreads 15 = .ok (.getfield 71, 3) := by decide +kernel
theorem dX3_spreads_18 : decode cX3_spreads 18 = .ok (.iload_n 1, 1) := by decide +kernel
theorem dX3_spreads_19 : decode cX3_spreads 19 = .ok (.iaload, 1) := by decide +kernel
theorem dX3_spreads_20 : decode cX3_spreads 20 = .ok (.istore 4, 2) := by decide +kernel
theorem dX3_spreads_22 : decode cX3_spreads 22 = .ok (.iload 4, 2) := by decide +kernel
theorem dX3_spreads_24 : decode cX3_spreads 24 = .ok (.aload_n 0, 1) := by decide +kernel
theorem dX3_spreads_25 : decode cX3_spreads 25 = .ok (.getfield 19, 3) := by decide +kernel
theorem dX3_spreads_28 : decode cX3_spreads 28 = .ok (.iload_n 2, 1) := by decide +kernel
theorem dX3_spreads_29 : decode cX3_spreads 29 = .ok (.iaload, 1) := by decide +kernel
theorem dX3_spreads_30 : decode cX3_spreads 30 = .ok (.if_icmp .ge 56, 3) := by decide +kernel
theorem dX3_spreads_33 : decode cX3_spreads 33 = .ok (.aload_n 0, 1) := by decide +kernel
theorem dX3_spreads_34 : decode cX3_spreads 34 = .ok (.getfield 22, 3) := by decide +kernel
theorem dX3_spreads_37 : decode cX3_spreads 37 = .ok (.bipush 8, 2) := by decide +kernel
theorem dX3_spreads_39 : decode cX3_spreads 39 = .ok (.iload_n 2, 1) := by decide +kernel
theorem dX3_spreads_40 : decode cX3_spreads 40 = .ok (.imul, 1) := by decide +kernel
theorem dX3_spreads_41 : decode cX3_spreads 41 = .ok (.iload 4, 2) := by decide +kernel
theorem dX3_spreads_43 : decode cX3_spreads 43 = .ok (.iadd, 1) := by decide +kernel
theorem dX3_spreads_44 : decode cX3_spreads 44 = .ok (.iaload, 1) := by decide +kernel
theorem dX3_spreads_45 : decode cX3_spreads 45 = .ok (.iconst (-1), 1) := by decide +kernel
theorem dX3_spreads_46 : decode cX3_spreads 46 = .ok (.if_icmp .eq 34, 3) := by decide +kernel
theorem dX3_spreads_49 : decode cX3_spreads 49 = .ok (.aload_n 0, 1) := by decide +kernel
theorem dX3_spreads_50 : decode cX3_spreads 50 = .ok (.getfield 71, 3) := by decide +kernel
theorem dX3_spreads_53 : decode cX3_spreads 53 = .ok (.iload_n 1, 1) := by decide +kernel
theorem dX3_spreads_54 : decode cX3_spreads 54 = .ok (.iload 4, 2) := by decide +kernel
theorem dX3_spreads_56 : decode cX3_spreads 56 = .ok (.iconst 1, 1) := by decide +kernel
theorem dX3_spreads_57 : decode cX3_spreads 57 = .ok (.iadd, 1) := by decide +kernel
theorem dX3_spreads_58 : decode cX3_spreads 58 = .ok (.iastore, 1) := by decide +kernel
theorem dX3_spreads_59 : decode cX3_spreads 59 = .ok (.aload_n 0, 1) := by decide +kernel
theorem dX3_spreads_60 : decode cX3_spreads 60 = .ok (.aload_n 0, 1) := by decide +kernel
theorem dX3_spreads_61 : decode cX3_spreads 61 = .ok (.getfield 22, 3) := by decide +kernel
theorem dX3_spreads_64 : decode cX3_spreads 64 = .ok (.bipush 8, 2) := by decide +kernel
theorem dX3_spreads_66 : decode cX3_spreads 66 = .ok (.iload_n 2, 1) := by decide +kernel
theorem dX3_spreads_67 : decode cX3_spreads 67 = .ok (.imul, 1) := by decide +kernel
theorem dX3_spreads_68 : decode cX3_spreads 68 = .ok (.iload 4, 2) := by decide +kernel
theorem dX3_spreads_70 : decode cX3_spreads 70 = .ok (.iadd, 1) := by decide +kernel
theorem dX3_spreads_71 : decode cX3_spreads 71 = .ok (.iaload, 1) := by decide +kernel
theorem dX3_spreads_72 : decode cX3_spreads 72 = .ok (.iload_n 3, 1) := by decide +kernel
theorem dX3_spreads_73 : decode cX3_spreads 73 = .ok (.iconst 1, 1) := by decide +kernel
theorem dX3_spreads_74 : decode cX3_spreads 74 = .ok (.iadd, 1) := by decide +kernel
theorem dX3_spreads_75 : decode cX3_spreads 75 = .ok (.invokevirtual 120, 3) := by decide +kernel
theorem dX3_spreads_78 : decode cX3_spreads 78 = .ok (.iconst 1, 1) := by decide +kernel
theorem dX3_spreads_79 : decode cX3_spreads 79 = .ok (.ireturn, 1) := by decide +kernel
theorem dX3_spreads_80 : decode cX3_spreads 80 = .ok (.iinc 4 1, 3) := by decide +kernel
theorem dX3_spreads_83 : decode cX3_spreads 83 = .ok (.goto (-61), 3) := by decide +kernel
theorem dX3_spreads_86 : decode cX3_spreads 86 = .ok (.iconst 0, 1) := by decide +kernel
theorem dX3_spreads_87 : decode cX3_spreads 87 = .ok (.ireturn, 1) := by decide +kernel
theorem dX3_works_0 : decode cX3_works 0 = .ok (.aload_n 0, 1) := by decide +kernel
theorem dX3_works_1 : decode cX3_works 1 = .ok (.getfield 62, 3) := by decide +kernel
theorem dX3_works_4 : decode cX3_works 4 = .ok (.iload_n 1, 1) := by decide +kernel
theorem dX3_works_5 : decode cX3_works 5 = .ok (.iaload, 1) := by decide +kernel
theorem dX3_works_6 : decode cX3_works 6 = .ok (.istore_n 2, 1) := by decide +kernel
theorem dX3_works_7 : decode cX3_works 7 = .ok (.aload_n 0, 1) := by decide +kernel
theorem dX3_works_8 : decode cX3_works 8 = .ok (.getfield 68, 3) := by decide +kernel
theorem dX3_works_11 : decode cX3_works 11 = .ok (.iload_n 1, 1) := by decide +kernel
theorem dX3_works_12 : decode cX3_works 12 = .ok (.iaload, 1) := by decide +kernel
theorem dX3_works_13 : decode cX3_works 13 = .ok (.istore_n 3, 1) := by decide +kernel
theorem dX3_works_14 : decode cX3_works 14 = .ok (.aload_n 0, 1) := by decide +kernel
theorem dX3_works_15 : decode cX3_works 15 = .ok (.iload_n 2, 1) := by decide +kernel
theorem dX3_works_16 : decode cX3_works 16 = .ok (.aload_n 0, 1) := by decide +kernel
theorem dX3_works_17 : decode cX3_works 17 = .ok (.getfield 41, 3) := by decide +kernel
theorem dX3_works_20 : decode cX3_works 20 = .ok (.iload_n 3, 1) := by decide +kernel
theorem dX3_works_21 : decode cX3_works 21 = .ok (.iaload, 1) := by decide +kernel
theorem dX3_works_22 : decode cX3_works 22 = .ok (.aload_n 0, 1) := by decide +kernel
theorem dX3_works_23 : decode cX3_works 23 = .ok (.getfield 44, 3) := by decide +kernel
theorem dX3_works_26 : decode cX3_works 26 = .ok (.iload_n 3, 1) := by decide +kernel
theorem dX3_works_27 : decode cX3_works 27 = .ok (.iaload, 1) := by decide +kernel
theorem dX3_works_28 : decode cX3_works 28 = .ok (.invokevirtual 90, 3) := by decide +kernel
theorem dX3_works_31 : decode cX3_works 31 = .ok (.ifCond .ne 5, 3) := by decide +kernel
theorem dX3_works_34 : decode cX3_works 34 = .ok (.iconst 1, 1) := by decide +kernel
theorem dX3_works_35 : decode cX3_works 35 = .ok (.ireturn, 1) := by decide +kernel
theorem dX3_works_36 : decode cX3_works 36 = .ok (.aload_n 0, 1) := by decide +kernel
theorem dX3_works_37 : decode cX3_works 37 = .ok (.getfield 47, 3) := by decide +kernel
theorem dX3_works_40 : decode cX3_works 40 = .ok (.iload_n 3, 1) := by decide +kernel
theorem dX3_works_41 : decode cX3_works 41 = .ok (.iaload, 1) := by decide +kernel
theorem dX3_works_42 : decode cX3_works 42 = .ok (.tableswitch 171 0 4 #[34, 64, 71, 78, 149], 34) := by decide +kernel
theorem dX3_works_76 : decode cX3_works 76 = .ok (.aload_n 0, 1) := by decide +kernel
theorem dX3_works_77 : decode cX3_works 77 = .ok (.getfield 50, 3) := by decide +kernel
theorem dX3_works_80 : decode cX3_works 80 = .ok (.iload_n 3, 1) := by decide +kernel
theorem dX3_works_81 : decode cX3_works 81 = .ok (.dup2, 1) := by decide +kernel
theorem dX3_works_82 : decode cX3_works 82 = .ok (.iaload, 1) := by decide +kernel
theorem dX3_works_83 : decode cX3_works 83 = .ok (.aload_n 0, 1) := by decide +kernel
theorem dX3_works_84 : decode cX3_works 84 = .ok (.getfield 13, 3) := by decide +kernel
theorem dX3_works_87 : decode cX3_works 87 = .ok (.iload_n 2, 1) := by decide +kernel
theorem dX3_works_88 : decode cX3_works 88 = .ok (.iaload, 1) := by decide +kernel
theorem dX3_works_89 : decode cX3_works 89 = .ok (.ifCond .ne 7, 3) := by decide +kernel
theorem dX3_works_92 : decode cX3_works 92 = .ok (.iconst 1, 1) := by decide +kernel
theorem dX3_works_93 : decode cX3_works 93 = .ok (.goto 9, 3) := by decide +kernel
theorem dX3_works_96 : decode cX3_works 96 = .ok (.aload_n 0, 1) := by decide +kernel
theorem dX3_works_97 : decode cX3_works 97 = .ok (.getfield 19, 3) := by decide +kernel
theorem dX3_works_100 : decode cX3_works 100 = .ok (.iload_n 2, 1) := by decide +kernel
theorem dX3_works_101 : decode cX3_works 101 = .ok (.iaload, 1) := by decide +kernel
theorem dX3_works_102 : decode cX3_works 102 = .ok (.iadd, 1) := by decide +kernel
theorem dX3_works_103 : decode cX3_works 103 = .ok (.iastore, 1) := by decide +kernel
theorem dX3_works_104 : decode cX3_works 104 = .ok (.iconst 0, 1) := by decide +kernel
theorem dX3_works_105 : decode cX3_works 105 = .ok (.ireturn, 1) := by decide +kernel
theorem dX3_works_106 : decode cX3_works 106 = .ok (.aload_n 0, 1) := by decide +kernel
theorem dX3_works_107 : decode cX3_works 107 = .ok (.iload_n 3, 1) := by decide +kernel
theorem dX3_works_108 : decode cX3_works 108 = .ok (.iload_n 2, 1) := by decide +kernel
theorem dX3_works_109 : decode cX3_works 109 = .ok (.invokevirtual 124, 3) := by decide +kernel
theorem dX3_works_112 : decode cX3_works 112 = .ok (.ireturn, 1) := by decide +kernel
theorem dX3_works_113 : decode cX3_works 113 = .ok (.aload_n 0, 1) := by decide +kernel
theorem dX3_works_114 : decode cX3_works 114 = .ok (.iload_n 3, 1) := by decide +kernel
theorem dX3_works_115 : decode cX3_works 115 = .ok (.iload_n 2, 1) := by decide +kernel
theorem dX3_works_116 : decode cX3_works 116 = .ok (.invokevirtual 127, 3) := by decide +kernel
theorem dX3_works_119 : decode cX3_works 119 = .ok (.ireturn, 1) := by decide +kernel
theorem dX3_works_120 : decode cX3_works 120 = .ok (.aload_n 0, 1) := by decide +kernel
theorem dX3_works_121 : decode cX3_works 121 = .ok (.getfield 50, 3) := by decide +kernel
theorem dX3_works_124 : decode cX3_works 124 = .ok (.iload_n 3, 1) := by decide +kernel
theorem dX3_works_125 : decode cX3_works 125 = .ok (.iaload, 1) := by decide +kernel
theorem dX3_works_126 : decode cX3_works 126 = .ok (.iconst 0, 1) := by decide +kernel
theorem dX3_works_127 : decode cX3_works 127 = .ok (.aload_n 0, 1) := by decide +kernel
theorem dX3_works_128 : decode cX3_works 128 = .ok (.getfield 19, 3) := by decide +kernel
theorem dX3_works_131 : decode cX3_works 131 = .ok (.iload_n 2, 1) := by decide +kernel
theorem dX3_works_132 : decode cX3_works 132 = .ok (.iaload, 1) := by decide +kernel
theorem dX3_works_133 : decode cX3_works 133 = .ok (.iconst 1, 1) := by decide +kernel
theorem dX3_works_134 : decode cX3_works 134 = .ok (.isub, 1) := by decide +kernel
theorem dX3_works_135 : decode cX3_works 135 = .ok (.invokestatic 78, 3) := by decide +kernel
theorem dX3_works_138 : decode cX3_works 138 = .ok (.ifCond .ne 5, 3) := by decide +kernel
theorem dX3_works_141 : decode cX3_works 141 = .ok (.iconst 2, 1) := by decide +kernel
theorem dX3_works_142 : decode cX3_works 142 = .ok (.ireturn, 1) := by decide +kernel
theorem dX3_works_143 : decode cX3_works 143 = .ok (.aload_n 0, 1) := by decide +kernel
theorem dX3_works_144 : decode cX3_works 144 = .ok (.getfield 22, 3) := by decide +kernel
theorem dX3_works_147 : decode cX3_works 147 = .ok (.bipush 8, 2) := by decide +kernel
theorem dX3_works_149 : decode cX3_works 149 = .ok (.iload_n 2, 1) := by decide +kernel
theorem dX3_works_150 : decode cX3_works 150 = .ok (.imul, 1) := by decide +kernel
theorem dX3_works_151 : decode cX3_works 151 = .ok (.aload_n 0, 1) := by decide +kernel
theorem dX3_works_152 : decode cX3_works 152 = .ok (.getfield 50, 3) := by decide +kernel
theorem dX3_works_155 : decode cX3_works 155 = .ok (.iload_n 3, 1) := by decide +kernel
theorem dX3_works_156 : decode cX3_works 156 = .ok (.iaload, 1) := by decide +kernel
theorem dX3_works_157 : decode cX3_works 157 = .ok (.iadd, 1) := by decide +kernel
theorem dX3_works_158 : decode cX3_works 158 = .ok (.iaload, 1) := by decide +kernel
theorem dX3_works_159 : decode cX3_works 159 = .ok (.iconst (-1), 1) := by decide +kernel
theorem dX3_works_160 : decode cX3_works 160 = .ok (.if_icmp .ne 5, 3) := by decide +kernel
theorem dX3_works_163 : decode cX3_works 163 = .ok (.iconst 4, 1) := by decide +kernel
theorem dX3_works_164 : decode cX3_works 164 = .ok (.ireturn, 1) := by decide +kernel
theorem dX3_works_165 : decode cX3_works 165 = .ok (.aload_n 0, 1) := by decide +kernel
theorem dX3_works_166 : decode cX3_works 166 = .ok (.aload_n 0, 1) := by decide +kernel
theorem dX3_works_167 : decode cX3_works 167 = .ok (.getfield 22, 3) := by decide +kernel
theorem dX3_works_170 : decode cX3_works 170 = .ok (.bipush 8, 2) := by decide +kernel
theorem dX3_works_172 : decode cX3_works 172 = .ok (.iload_n 2, 1) := by decide +kernel
theorem dX3_works_173 : decode cX3_works 173 = .ok (.imul, 1) := by decide +kernel
theorem dX3_works_174 : decode cX3_works 174 = .ok (.aload_n 0, 1) := by decide +kernel
theorem dX3_works_175 : decode cX3_works 175 = .ok (.getfield 50, 3) := by decide +kernel
theorem dX3_works_178 : decode cX3_works 178 = .ok (.iload_n 3, 1) := by decide +kernel
theorem dX3_works_179 : decode cX3_works 179 = .ok (.iaload, 1) := by decide +kernel
theorem dX3_works_180 : decode cX3_works 180 = .ok (.iadd, 1) := by decide +kernel
theorem dX3_works_181 : decode cX3_works 181 = .ok (.iaload, 1) := by decide +kernel
theorem dX3_works_182 : decode cX3_works 182 = .ok (.iload_n 3, 1) := by decide +kernel
theorem dX3_works_183 : decode cX3_works 183 = .ok (.iconst 1, 1) := by decide +kernel
theorem dX3_works_184 : decode cX3_works 184 = .ok (.iadd, 1) := by decide +kernel
theorem dX3_works_185 : decode cX3_works 185 = .ok (.invokevirtual 120, 3) := by decide +kernel
theorem dX3_works_188 : decode cX3_works 188 = .ok (.bipush (-100), 2) := by decide +kernel
theorem dX3_works_190 : decode cX3_works 190 = .ok (.ireturn, 1) := by decide +kernel
theorem dX3_works_191 : decode cX3_works 191 = .ok (.aload_n 0, 1) := by decide +kernel
theorem dX3_works_192 : decode cX3_works 192 = .ok (.getfield 71, 3) := by decide +kernel
theorem dX3_works_195 : decode cX3_works 195 = .ok (.iload_n 1, 1) := by decide +kernel
theorem dX3_works_196 : decode cX3_works 196 = .ok (.iconst 0, 1) := by decide +kernel
theorem dX3_works_197 : decode cX3_works 197 = .ok (.iastore, 1) := by decide +kernel
theorem dX3_works_198 : decode cX3_works 198 = .ok (.aload_n 0, 1) := by decide +kernel
theorem dX3_works_199 : decode cX3_works 199 = .ok (.iload_n 1, 1) := by decide +kernel
theorem dX3_works_200 : decode cX3_works 200 = .ok (.invokevirtual 130, 3) := by decide +kernel
theorem dX3_works_203 : decode cX3_works 203 = .ok (.ifCond .eq 8, 3) := by decide +kernel
theorem dX3_works_206 : decode cX3_works 206 = .ok (.bipush (-100), 2) := by decide +kernel
theorem dX3_works_208 : decode cX3_works 208 = .ok (.goto 4, 3) := by decide +kernel
theorem dX3_works_211 : decode cX3_works 211 = .ok (.iconst 0, 1) := by decide +kernel
theorem dX3_works_212 : decode cX3_works 212 = .ok (.ireturn, 1) := by decide +kernel
theorem dX3_works_213 : decode cX3_works 213 = .ok (.aload_n 0, 1) := by decide +kernel
theorem dX3_works_214 : decode cX3_works 214 = .ok (.getfield 53, 3) := by decide +kernel
theorem dX3_works_217 : decode cX3_works 217 = .ok (.iload_n 3, 1) := by decide +kernel
theorem dX3_works_218 : decode cX3_works 218 = .ok (.iload_n 2, 1) := by decide +kernel
theorem dX3_works_219 : decode cX3_works 219 = .ok (.iastore, 1) := by decide +kernel
theorem dX3_works_220 : decode cX3_works 220 = .ok (.iconst 0, 1) := by decide +kernel
theorem dX3_works_221 : decode cX3_works 221 = .ok (.ireturn, 1) := by decide +kernel
theorem dX3_over_0 : decode cX3_over 0 = .ok (.aload_n 0, 1) := by decide +kernel
theorem dX3_over_1 : decode cX3_over 1 = .ok (.getfield 68, 3) := by decide +kernel
theorem dX3_over_4 : decode cX3_over 4 = .ok (.iload_n 1, 1) := by decide +kernel
theorem dX3_over_5 : decode cX3_over 5 = .ok (.iaload, 1) := by decide +kernel
theorem dX3_over_6 : decode cX3_over 6 = .ok (.istore_n 3, 1) := by decide +kernel
theorem dX3_over_7 : decode cX3_over 7 = .ok (.aload_n 0, 1) := by decide +kernel
theorem dX3_over_8 : decode cX3_over 8 = .ok (.getfield 56, 3) := by decide +kernel
theorem dX3_over_11 : decode cX3_over 11 = .ok (.iload_n 3, 1) := by decide +kernel
theorem dX3_over_12 : decode cX3_over 12 = .ok (.dup2, 1) := by decide +kernel
theorem dX3_over_13 : decode cX3_over 13 = .ok (.iaload, 1) := by decide +kernel
theorem dX3_over_14 : decode cX3_over 14 = .ok (.iconst 1, 1) := by decide +kernel
theorem dX3_over_15 : decode cX3_over 15 = .ok (.iadd, 1) := by decide +kernel
theorem dX3_over_16 : decode cX3_over 16 = .ok (.iastore, 1) := by decide +kernel
theorem dX3_over_17 : decode cX3_over 17 = .ok (.iload_n 2, 1) := by decide +kernel
theorem dX3_over_18 : decode cX3_over 18 = .ok (.ifCond .ne 15, 3) := by decide +kernel
theorem dX3_over_21 : decode cX3_over 21 = .ok (.aload_n 0, 1) := by decide +kernel
theorem dX3_over_22 : decode cX3_over 22 = .ok (.dup, 1) := by decide +kernel
theorem dX3_over_23 : decode cX3_over 23 = .ok (.getfield 133, 3) := by decide +kernel
theorem dX3_over_26 : decode cX3_over 26 = .ok (.iconst 1, 1) := by decide +kernel
theorem dX3_over_27 : decode cX3_over 27 = .ok (.iadd, 1) := by decide +kernel
theorem dX3_over_28 : decode cX3_over 28 = .ok (.putfield 133, 3) := by decide +kernel
theorem dX3_over_31 : decode cX3_over 31 = .ok (.iload_n 3, 1) := by decide +kernel
theorem dX3_over_32 : decode cX3_over 32 = .ok (.ireturn, 1) := by decide +kernel
theorem dX3_over_33 : decode cX3_over 33 = .ok (.aload_n 0, 1) := by decide +kernel
theorem dX3_over_34 : decode cX3_over 34 = .ok (.getfield 59, 3) := by decide +kernel
theorem dX3_over_37 : decode cX3_over 37 = .ok (.iload_n 3, 1) := by decide +kernel
theorem dX3_over_38 : decode cX3_over 38 = .ok (.dup2, 1) := by decide +kernel
theorem dX3_over_39 : decode cX3_over 39 = .ok (.iaload, 1) := by decide +kernel
theorem dX3_over_40 : decode cX3_over 40 = .ok (.iconst 1, 1) := by decide +kernel
theorem dX3_over_41 : decode cX3_over 41 = .ok (.iadd, 1) := by decide +kernel
theorem dX3_over_42 : decode cX3_over 42 = .ok (.iastore, 1) := by decide +kernel
theorem dX3_over_43 : decode cX3_over 43 = .ok (.aload_n 0, 1) := by decide +kernel
theorem dX3_over_44 : decode cX3_over 44 = .ok (.getfield 29, 3) := by decide +kernel
theorem dX3_over_47 : decode cX3_over 47 = .ok (.iload_n 3, 1) := by decide +kernel
theorem dX3_over_48 : decode cX3_over 48 = .ok (.aload_n 0, 1) := by decide +kernel
theorem dX3_over_49 : decode cX3_over 49 = .ok (.getfield 29, 3) := by decide +kernel
theorem dX3_over_52 : decode cX3_over 52 = .ok (.iload_n 3, 1) := by decide +kernel
theorem dX3_over_53 : decode cX3_over 53 = .ok (.baload, 1) := by decide +kernel
theorem dX3_over_54 : decode cX3_over 54 = .ok (.ifCond .ne 14, 3) := by decide +kernel
theorem dX3_over_57 : decode cX3_over 57 = .ok (.aload_n 0, 1) := by decide +kernel
theorem dX3_over_58 : decode cX3_over 58 = .ok (.getfield 59, 3) := by decide +kernel
theorem dX3_over_61 : decode cX3_over 61 = .ok (.iload_n 3, 1) := by decide +kernel
theorem dX3_over_62 : decode cX3_over 62 = .ok (.iaload, 1) := by decide +kernel
theorem dX3_over_63 : decode cX3_over 63 = .ok (.iconst 3, 1) := by decide +kernel
theorem dX3_over_64 : decode cX3_over 64 = .ok (.irem, 1) := by decide +kernel
theorem dX3_over_65 : decode cX3_over 65 = .ok (.ifCond .ne 7, 3) := by decide +kernel
theorem dX3_over_68 : decode cX3_over 68 = .ok (.iconst 1, 1) := by decide +kernel
theorem dX3_over_69 : decode cX3_over 69 = .ok (.goto 4, 3) := by decide +kernel
theorem dX3_over_72 : decode cX3_over 72 = .ok (.iconst 0, 1) := by decide +kernel
theorem dX3_over_73 : decode cX3_over 73 = .ok (.bastore, 1) := by decide +kernel
theorem dX3_over_74 : decode cX3_over 74 = .ok (.aload_n 0, 1) := by decide +kernel
theorem dX3_over_75 : decode cX3_over 75 = .ok (.dup, 1) := by decide +kernel
theorem dX3_over_76 : decode cX3_over 76 = .ok (.getfield 136, 3) := by decide +kernel
theorem dX3_over_79 : decode cX3_over 79 = .ok (.iconst 1, 1) := by decide +kernel
theorem dX3_over_80 : decode cX3_over 80 = .ok (.iadd, 1) := by decide +kernel
theorem dX3_over_81 : decode cX3_over 81 = .ok (.putfield 136, 3) := by decide +kernel
theorem dX3_over_84 : decode cX3_over 84 = .ok (.aload_n 0, 1) := by decide +kernel
theorem dX3_over_85 : decode cX3_over 85 = .ok (.aload_n 0, 1) := by decide +kernel
theorem dX3_over_86 : decode cX3_over 86 = .ok (.getfield 139, 3) := by decide +kernel
theorem dX3_over_89 : decode cX3_over 89 = .ok (.iconst (-1), 1) := by decide +kernel
theorem dX3_over_90 : decode cX3_over 90 = .ok (.if_icmp .ne 7, 3) := by decide +kernel
theorem dX3_over_93 : decode cX3_over 93 = .ok (.iload_n 3, 1) := by decide +kernel
theorem dX3_over_94 : decode cX3_over 94 = .ok (.goto 7, 3) := by decide +kernel
theorem dX3_over_97 : decode cX3_over 97 = .ok (.aload_n 0, 1) := by decide +kernel
theorem dX3_over_98 : decode cX3_over 98 = .ok (.getfield 139, 3) := by decide +kernel
theorem dX3_over_101 : decode cX3_over 101 = .ok (.putfield 139, 3) := by decide +kernel
theorem dX3_over_104 : decode cX3_over 104 = .ok (.aload_n 0, 1) := by decide +kernel
theorem dX3_over_105 : decode cX3_over 105 = .ok (.getfield 32, 3) := by decide +kernel
theorem dX3_over_108 : decode cX3_over 108 = .ok (.iload_n 3, 1) := by decide +kernel
theorem dX3_over_109 : decode cX3_over 109 = .ok (.baload, 1) := by decide +kernel
theorem dX3_over_110 : decode cX3_over 110 = .ok (.ifCond .eq 13, 3) := by decide +kernel
theorem dX3_over_113 : decode cX3_over 113 = .ok (.iload_n 2, 1) := by decide +kernel
theorem dX3_over_114 : decode cX3_over 114 = .ok (.iconst 5, 1) := by decide +kernel
theorem dX3_over_115 : decode cX3_over 115 = .ok (.if_icmp .eq 8, 3) := by decide +kernel
theorem dX3_over_118 : decode cX3_over 118 = .ok (.bipush (-100), 2) := by decide +kernel
theorem dX3_over_120 : decode cX3_over 120 = .ok (.goto 7, 3) := by decide +kernel
theorem dX3_over_123 : decode cX3_over 123 = .ok (.bipush (-10), 2) := by decide +kernel
theorem dX3_over_125 : decode cX3_over 125 = .ok (.iload_n 2, 1) := by decide +kernel
theorem dX3_over_126 : decode cX3_over 126 = .ok (.isub, 1) := by decide +kernel
theorem dX3_over_127 : decode cX3_over 127 = .ok (.ireturn, 1) := by decide +kernel
theorem dX3_step_0 : decode cX3_step 0 = .ok (.aload_n 0, 1) := by decide +kernel
theorem dX3_step_1 : decode cX3_step 1 = .ok (.getfield 117, 3) := by decide +kernel
theorem dX3_step_4 : decode cX3_step 4 = .ok (.iconst 1, 1) := by decide +kernel
theorem dX3_step_5 : decode cX3_step 5 = .ok (.isub, 1) := by decide +kernel
theorem dX3_step_6 : decode cX3_step 6 = .ok (.istore_n 1, 1) := by decide +kernel
theorem dX3_step_7 : decode cX3_step 7 = .ok (.aload_n 0, 1) := by decide +kernel
theorem dX3_step_8 : decode cX3_step 8 = .ok (.aload_n 0, 1) := by decide +kernel
theorem dX3_step_9 : decode cX3_step 9 = .ok (.getfield 62, 3) := by decide +kernel
theorem dX3_step_12 : decode cX3_step 12 = .ok (.iload_n 1, 1) := by decide +kernel
theorem dX3_step_13 : decode cX3_step 13 = .ok (.iaload, 1) := by decide +kernel
theorem dX3_step_14 : decode cX3_step 14 = .ok (.aload_n 0, 1) := by decide +kernel
theorem dX3_step_15 : decode cX3_step 15 = .ok (.getfield 65, 3) := by decide +kernel
theorem dX3_step_18 : decode cX3_step 18 = .ok (.iload_n 1, 1) := by decide +kernel
theorem dX3_step_19 : decode cX3_step 19 = .ok (.iaload, 1) := by decide +kernel
theorem dX3_step_20 : decode cX3_step 20 = .ok (.invokevirtual 142, 3) := by decide +kernel
theorem dX3_step_23 : decode cX3_step 23 = .ok (.istore_n 2, 1) := by decide +kernel
theorem dX3_step_24 : decode cX3_step 24 = .ok (.iload_n 2, 1) := by decide +kernel
theorem dX3_step_25 : decode cX3_step 25 = .ok (.iconst (-1), 1) := by decide +kernel
theorem dX3_step_26 : decode cX3_step 26 = .ok (.if_icmp .ne 16, 3) := by decide +kernel
theorem dX3_step_29 : decode cX3_step 29 = .ok (.aload_n 0, 1) := by decide +kernel
theorem dX3_step_30 : decode cX3_step 30 = .ok (.dup, 1) := by decide +kernel
theorem dX3_step_31 : decode cX3_step 31 = .ok (.getfield 145, 3) := by decide +kernel
theorem dX3_step_34 : decode cX3_step 34 = .ok (.iconst 1, 1) := by decide +kernel
theorem dX3_step_35 : decode cX3_step 35 = .ok (.iadd, 1) := by decide +kernel
theorem dX3_step_36 : decode cX3_step 36 = .ok (.putfield 145, 3) := by decide +kernel
theorem dX3_step_39 : decode cX3_step 39 = .ok (.bipush (-4), 2) := by decide +kernel
theorem dX3_step_41 : decode cX3_step 41 = .ok (.ireturn, 1) := by decide +kernel
theorem dX3_step_42 : decode cX3_step 42 = .ok (.aload_n 0, 1) := by decide +kernel
theorem dX3_step_43 : decode cX3_step 43 = .ok (.getfield 148, 3) := by decide +kernel
theorem dX3_step_46 : decode cX3_step 46 = .ok (.bipush 16, 2) := by decide +kernel
theorem dX3_step_48 : decode cX3_step 48 = .ok (.if_icmp .ne 6, 3) := by decide +kernel
theorem dX3_step_51 : decode cX3_step 51 = .ok (.bipush (-15), 2) := by decide +kernel
theorem dX3_step_53 : decode cX3_step 53 = .ok (.ireturn, 1) := by decide +kernel
theorem dX3_step_54 : decode cX3_step 54 = .ok (.aload_n 0, 1) := by decide +kernel
theorem dX3_step_55 : decode cX3_step 55 = .ok (.dup, 1) := by decide +kernel
theorem dX3_step_56 : decode cX3_step 56 = .ok (.getfield 148, 3) := by decide +kernel
theorem dX3_step_59 : decode cX3_step 59 = .ok (.iconst 1, 1) := by decide +kernel
theorem dX3_step_60 : decode cX3_step 60 = .ok (.iadd, 1) := by decide +kernel
theorem dX3_step_61 : decode cX3_step 61 = .ok (.putfield 148, 3) := by decide +kernel
theorem dX3_step_64 : decode cX3_step 64 = .ok (.aload_n 0, 1) := by decide +kernel
theorem dX3_step_65 : decode cX3_step 65 = .ok (.getfield 65, 3) := by decide +kernel
theorem dX3_step_68 : decode cX3_step 68 = .ok (.iload_n 1, 1) := by decide +kernel
theorem dX3_step_69 : decode cX3_step 69 = .ok (.iload_n 2, 1) := by decide +kernel
theorem dX3_step_70 : decode cX3_step 70 = .ok (.iconst 1, 1) := by decide +kernel
theorem dX3_step_71 : decode cX3_step 71 = .ok (.iadd, 1) := by decide +kernel
theorem dX3_step_72 : decode cX3_step 72 = .ok (.iastore, 1) := by decide +kernel
theorem dX3_step_73 : decode cX3_step 73 = .ok (.aload_n 0, 1) := by decide +kernel
theorem dX3_step_74 : decode cX3_step 74 = .ok (.getfield 68, 3) := by decide +kernel
theorem dX3_step_77 : decode cX3_step 77 = .ok (.iload_n 1, 1) := by decide +kernel
theorem dX3_step_78 : decode cX3_step 78 = .ok (.iload_n 2, 1) := by decide +kernel
theorem dX3_step_79 : decode cX3_step 79 = .ok (.iastore, 1) := by decide +kernel
theorem dX3_step_80 : decode cX3_step 80 = .ok (.aload_n 0, 1) := by decide +kernel
theorem dX3_step_81 : decode cX3_step 81 = .ok (.iload_n 1, 1) := by decide +kernel
theorem dX3_step_82 : decode cX3_step 82 = .ok (.invokevirtual 151, 3) := by decide +kernel
theorem dX3_step_85 : decode cX3_step 85 = .ok (.istore_n 3, 1) := by decide +kernel
theorem dX3_step_86 : decode cX3_step 86 = .ok (.iload_n 3, 1) := by decide +kernel
theorem dX3_step_87 : decode cX3_step 87 = .ok (.bipush (-100), 2) := by decide +kernel
theorem dX3_step_89 : decode cX3_step 89 = .ok (.if_icmp .ne 8, 3) := by decide +kernel
theorem dX3_step_92 : decode cX3_step 92 = .ok (.bipush (-100), 2) := by decide +kernel
theorem dX3_step_94 : decode cX3_step 94 = .ok (.goto 9, 3) := by decide +kernel
theorem dX3_step_97 : decode cX3_step 97 = .ok (.aload_n 0, 1) := by decide +kernel
theorem dX3_step_98 : decode cX3_step 98 = .ok (.iload_n 1, 1) := by decide +kernel
theorem dX3_step_99 : decode cX3_step 99 = .ok (.iload_n 3, 1) := by decide +kernel
theorem dX3_step_100 : decode cX3_step 100 = .ok (.invokevirtual 155, 3) := by decide +kernel
theorem dX3_step_103 : decode cX3_step 103 = .ok (.ireturn, 1) := by decide +kernel
theorem dX3_back_0 : decode cX3_back 0 = .ok (.aload_n 0, 1) := by decide +kernel
theorem dX3_back_1 : decode cX3_back 1 = .ok (.getfield 117, 3) := by decide +kernel
theorem dX3_back_4 : decode cX3_back 4 = .ok (.iconst 1, 1) := by decide +kernel
theorem dX3_back_5 : decode cX3_back 5 = .ok (.isub, 1) := by decide +kernel
theorem dX3_back_6 : decode cX3_back 6 = .ok (.istore_n 2, 1) := by decide +kernel
theorem dX3_back_7 : decode cX3_back 7 = .ok (.iload_n 1, 1) := by decide +kernel
theorem dX3_back_8 : decode cX3_back 8 = .ok (.bipush (-10), 2) := by decide +kernel
theorem dX3_back_10 : decode cX3_back 10 = .ok (.if_icmp .ge 13, 3) := by decide +kernel
theorem dX3_back_13 : decode cX3_back 13 = .ok (.aload_n 0, 1) := by decide +kernel
theorem dX3_back_14 : decode cX3_back 14 = .ok (.iload_n 2, 1) := by decide +kernel
theorem dX3_back_15 : decode cX3_back 15 = .ok (.bipush (-10), 2) := by decide +kernel
theorem dX3_back_17 : decode cX3_back 17 = .ok (.iload_n 1, 1) := by decide +kernel
theorem dX3_back_18 : decode cX3_back 18 = .ok (.isub, 1) := by decide +kernel
theorem dX3_back_19 : decode cX3_back 19 = .ok (.invokevirtual 155, 3) := by decide +kernel
theorem dX3_back_22 : decode cX3_back 22 = .ok (.ireturn, 1) := by decide +kernel
theorem dX3_back_23 : decode cX3_back 23 = .ok (.aload_n 0, 1) := by decide +kernel
theorem dX3_back_24 : decode cX3_back 24 = .ok (.getfield 47, 3) := by decide +kernel
theorem dX3_back_27 : decode cX3_back 27 = .ok (.aload_n 0, 1) := by decide +kernel
theorem dX3_back_28 : decode cX3_back 28 = .ok (.getfield 68, 3) := by decide +kernel
theorem dX3_back_31 : decode cX3_back 31 = .ok (.iload_n 2, 1) := by decide +kernel
theorem dX3_back_32 : decode cX3_back 32 = .ok (.iaload, 1) := by decide +kernel
theorem dX3_back_33 : decode cX3_back 33 = .ok (.iaload, 1) := by decide +kernel
theorem dX3_back_34 : decode cX3_back 34 = .ok (.iconst 4, 1) := by decide +kernel
theorem dX3_back_35 : decode cX3_back 35 = .ok (.if_icmp .ne 16, 3) := by decide +kernel
theorem dX3_back_38 : decode cX3_back 38 = .ok (.aload_n 0, 1) := by decide +kernel
theorem dX3_back_39 : decode cX3_back 39 = .ok (.iload_n 2, 1) := by decide +kernel
theorem dX3_back_40 : decode cX3_back 40 = .ok (.invokevirtual 130, 3) := by decide +kernel
theorem dX3_back_43 : decode cX3_back 43 = .ok (.ifCond .eq 8, 3) := by decide +kernel
theorem dX3_back_46 : decode cX3_back 46 = .ok (.bipush (-100), 2) := by decide +kernel
theorem dX3_back_48 : decode cX3_back 48 = .ok (.goto 9, 3) := by decide +kernel
theorem dX3_back_51 : decode cX3_back 51 = .ok (.aload_n 0, 1) := by decide +kernel
theorem dX3_back_52 : decode cX3_back 52 = .ok (.iload_n 2, 1) := by decide +kernel
theorem dX3_back_53 : decode cX3_back 53 = .ok (.iconst 0, 1) := by decide +kernel
theorem dX3_back_54 : decode cX3_back 54 = .ok (.invokevirtual 155, 3) := by decide +kernel
theorem dX3_back_57 : decode cX3_back 57 = .ok (.ireturn, 1) := by decide +kernel
theorem dX3_send_0 : decode cX3_send 0 = .ok (.aload_n 0, 1) := by decide +kernel
theorem dX3_send_1 : decode cX3_send 1 = .ok (.iload_n 1, 1) := by decide +kernel
theorem dX3_send_2 : decode cX3_send 2 = .ok (.invokevirtual 97, 3) := by decide +kernel
theorem dX3_send_5 : decode cX3_send 5 = .ok (.ifCond .eq 13, 3) := by decide +kernel
theorem dX3_send_8 : decode cX3_send 8 = .ok (.iload_n 2, 1) := by decide +kernel
theorem dX3_send_9 : decode cX3_send 9 = .ok (.iconst 0, 1) := by decide +kernel
theorem dX3_send_10 : decode cX3_send 10 = .ok (.bipush 7, 2) := by decide +kernel
theorem dX3_send_12 : decode cX3_send 12 = .ok (.invokestatic 78, 3) := by decide +kernel
theorem dX3_send_15 : decode cX3_send 15 = .ok (.ifCond .ne 6, 3) := by decide +kernel
theorem dX3_send_18 : decode cX3_send 18 = .ok (.bipush (-2), 2) := by decide +kernel
theorem dX3_send_20 : decode cX3_send 20 = .ok (.ireturn, 1) := by decide +kernel
theorem dX3_send_21 : decode cX3_send 21 = .ok (.aload_n 0, 1) := by decide +kernel
theorem dX3_send_22 : decode cX3_send 22 = .ok (.dup, 1) := by decide +kernel
theorem dX3_send_23 : decode cX3_send 23 = .ok (.getfield 158, 3) := by decide +kernel
theorem dX3_send_26 : decode cX3_send 26 = .ok (.iconst 1, 1) := by decide +kernel
theorem dX3_send_27 : decode cX3_send 27 = .ok (.iadd, 1) := by decide +kernel
theorem dX3_send_28 : decode cX3_send 28 = .ok (.putfield 158, 3) := by decide +kernel
theorem dX3_send_31 : decode cX3_send 31 = .ok (.aload_n 0, 1) := by decide +kernel
theorem dX3_send_32 : decode cX3_send 32 = .ok (.iconst 0, 1) := by decide +kernel
theorem dX3_send_33 : decode cX3_send 33 = .ok (.putfield 148, 3) := by decide +kernel
theorem dX3_send_36 : decode cX3_send 36 = .ok (.aload_n 0, 1) := by decide +kernel
theorem dX3_send_37 : decode cX3_send 37 = .ok (.iconst 0, 1) := by decide +kernel
theorem dX3_send_38 : decode cX3_send 38 = .ok (.putfield 133, 3) := by decide +kernel
theorem dX3_send_41 : decode cX3_send 41 = .ok (.aload_n 0, 1) := by decide +kernel
theorem dX3_send_42 : decode cX3_send 42 = .ok (.iconst 0, 1) := by decide +kernel
theorem dX3_send_43 : decode cX3_send 43 = .ok (.putfield 145, 3) := by decide +kernel
theorem dX3_send_46 : decode cX3_send 46 = .ok (.aload_n 0, 1) := by decide +kernel
theorem dX3_send_47 : decode cX3_send 47 = .ok (.iconst 0, 1) := by decide +kernel
theorem dX3_send_48 : decode cX3_send 48 = .ok (.putfield 136, 3) := by decide +kernel
theorem dX3_send_51 : decode cX3_send 51 = .ok (.aload_n 0, 1) := by decide +kernel
theorem dX3_send_52 : decode cX3_send 52 = .ok (.iconst (-1), 1) := by decide +kernel
theorem dX3_send_53 : decode cX3_send 53 = .ok (.putfield 139, 3) := by decide +kernel
theorem dX3_send_56 : decode cX3_send 56 = .ok (.aload_n 0, 1) := by decide +kernel
theorem dX3_send_57 : decode cX3_send 57 = .ok (.iconst 0, 1) := by decide +kernel
theorem dX3_send_58 : decode cX3_send 58 = .ok (.putfield 117, 3) := by decide +kernel
theorem dX3_send_61 : decode cX3_send 61 = .ok (.aload_n 0, 1) := by decide +kernel
theorem dX3_send_62 : decode cX3_send 62 = .ok (.iload_n 1, 1) := by decide +kernel
theorem dX3_send_63 : decode cX3_send 63 = .ok (.iload_n 2, 1) := by decide +kernel
theorem dX3_send_64 : decode cX3_send 64 = .ok (.invokevirtual 120, 3) := by decide +kernel
theorem dX3_send_67 : decode cX3_send 67 = .ok (.bipush (-100), 2) := by decide +kernel
theorem dX3_send_69 : decode cX3_send 69 = .ok (.istore_n 3, 1) := by decide +kernel
theorem dX3_send_70 : decode cX3_send 70 = .ok (.aload_n 0, 1) := by decide +kernel
theorem dX3_send_71 : decode cX3_send 71 = .ok (.getfield 117, 3) := by decide +kernel
theorem dX3_send_74 : decode cX3_send 74 = .ok (.ifCond .le 43, 3) := by decide +kernel
theorem dX3_send_77 : decode cX3_send 77 = .ok (.iload_n 3, 1) := by decide +kernel
theorem dX3_send_78 : decode cX3_send 78 = .ok (.bipush (-100), 2) := by decide +kernel
theorem dX3_send_80 : decode cX3_send 80 = .ok (.if_icmp .ne 11, 3) := by decide +kernel
theorem dX3_send_83 : decode cX3_send 83 = .ok (.aload_n 0, 1) := by decide +kernel
theorem dX3_send_84 : decode cX3_send 84 = .ok (.invokevirtual 161, 3) := by decide +kernel
theorem dX3_send_87 : decode cX3_send 87 = .ok (.istore_n 3, 1) := by decide +kernel
theorem dX3_send_88 : decode cX3_send 88 = .ok (.goto (-18), 3) := by decide +kernel
theorem dX3_send_91 : decode cX3_send 91 = .ok (.aload_n 0, 1) := by decide +kernel
theorem dX3_send_92 : decode cX3_send 92 = .ok (.dup, 1) := by decide +kernel
theorem dX3_send_93 : decode cX3_send 93 = .ok (.getfield 117, 3) := by decide +kernel
theorem dX3_send_96 : decode cX3_send 96 = .ok (.iconst 1, 1) := by decide +kernel
theorem dX3_send_97 : decode cX3_send 97 = .ok (.isub, 1) := by decide +kernel
theorem dX3_send_98 : decode cX3_send 98 = .ok (.putfield 117, 3) := by decide +kernel
theorem dX3_send_101 : decode cX3_send 101 = .ok (.aload_n 0, 1) := by decide +kernel
theorem dX3_send_102 : decode cX3_send 102 = .ok (.getfield 117, 3) := by decide +kernel
theorem dX3_send_105 : decode cX3_send 105 = .ok (.ifCond .le (-35), 3) := by decide +kernel
theorem dX3_send_108 : decode cX3_send 108 = .ok (.aload_n 0, 1) := by decide +kernel
theorem dX3_send_109 : decode cX3_send 109 = .ok (.iload_n 3, 1) := by decide +kernel
theorem dX3_send_110 : decode cX3_send 110 = .ok (.invokevirtual 165, 3) := by decide +kernel
theorem dX3_send_113 : decode cX3_send 113 = .ok (.istore_n 3, 1) := by decide +kernel
theorem dX3_send_114 : decode cX3_send 114 = .ok (.goto (-44), 3) := by decide +kernel
theorem dX3_send_117 : decode cX3_send 117 = .ok (.iload_n 3, 1) := by decide +kernel
theorem dX3_send_118 : decode cX3_send 118 = .ok (.ireturn, 1) := by decide +kernel
theorem dX3_told_0 : decode cX3_told 0 = .ok (.iload_n 1, 1) := by decide +kernel
theorem dX3_told_1 : decode cX3_told 1 = .ok (.iconst 0, 1) := by decide +kernel
theorem dX3_told_2 : decode cX3_told 2 = .ok (.iconst 4, 1) := by decide +kernel
theorem dX3_told_3 : decode cX3_told 3 = .ok (.invokestatic 78, 3) := by decide +kernel
theorem dX3_told_6 : decode cX3_told 6 = .ok (.ifCond .ne 6, 3) := by decide +kernel
theorem dX3_told_9 : decode cX3_told 9 = .ok (.bipush (-2), 2) := by decide +kernel
theorem dX3_told_11 : decode cX3_told 11 = .ok (.ireturn, 1) := by decide +kernel
theorem dX3_told_12 : decode cX3_told 12 = .ok (.aload_n 0, 1) := by decide +kernel
theorem dX3_told_13 : decode cX3_told 13 = .ok (.getfield 158, 3) := by decide +kernel
theorem dX3_told_16 : decode cX3_told 16 = .ok (.ifCond .ne 14, 3) := by decide +kernel
theorem dX3_told_19 : decode cX3_told 19 = .ok (.iload_n 1, 1) := by decide +kernel
theorem dX3_told_20 : decode cX3_told 20 = .ok (.iconst 4, 1) := by decide +kernel
theorem dX3_told_21 : decode cX3_told 21 = .ok (.if_icmp .ne 7, 3) := by decide +kernel
theorem dX3_told_24 : decode cX3_told 24 = .ok (.iconst (-1), 1) := by decide +kernel
theorem dX3_told_25 : decode cX3_told 25 = .ok (.goto 4, 3) := by decide +kernel
theorem dX3_told_28 : decode cX3_told 28 = .ok (.iconst 0, 1) := by decide +kernel
theorem dX3_told_29 : decode cX3_told 29 = .ok (.ireturn, 1) := by decide +kernel
theorem dX3_told_30 : decode cX3_told 30 = .ok (.iload_n 1, 1) := by decide +kernel
theorem dX3_told_31 : decode cX3_told 31 = .ok (.ifCond .ne 10, 3) := by decide +kernel
theorem dX3_told_34 : decode cX3_told 34 = .ok (.aload_n 0, 1) := by decide +kernel
theorem dX3_told_35 : decode cX3_told 35 = .ok (.getfield 148, 3) := by decide +kernel
theorem dX3_told_38 : decode cX3_told 38 = .ok (.goto 43, 3) := by decide +kernel
theorem dX3_told_41 : decode cX3_told 41 = .ok (.iload_n 1, 1) := by decide +kernel
theorem dX3_told_42 : decode cX3_told 42 = .ok (.iconst 1, 1) := by decide +kernel
theorem dX3_told_43 : decode cX3_told 43 = .ok (.if_icmp .ne 10, 3) := by decide +kernel
theorem dX3_told_46 : decode cX3_told 46 = .ok (.aload_n 0, 1) := by decide +kernel
theorem dX3_told_47 : decode cX3_told 47 = .ok (.getfield 133, 3) := by decide +kernel
theorem dX3_told_50 : decode cX3_told 50 = .ok (.goto 31, 3) := by decide +kernel
theorem dX3_told_53 : decode cX3_told 53 = .ok (.iload_n 1, 1) := by decide +kernel
theorem dX3_told_54 : decode cX3_told 54 = .ok (.iconst 2, 1) := by decide +kernel
theorem dX3_told_55 : decode cX3_told 55 = .ok (.if_icmp .ne 10, 3) := by decide +kernel
theorem dX3_told_58 : decode cX3_told 58 = .ok (.aload_n 0, 1) := by decide +kernel
theorem dX3_told_59 : decode cX3_told 59 = .ok (.getfield 145, 3) := by decide +kernel
theorem dX3_told_62 : decode cX3_told 62 = .ok (.goto 19, 3) := by decide +kernel
theorem dX3_told_65 : decode cX3_told 65 = .ok (.iload_n 1, 1) := by decide +kernel
theorem dX3_told_66 : decode cX3_told 66 = .ok (.iconst 3, 1) := by decide +kernel
theorem dX3_told_67 : decode cX3_told 67 = .ok (.if_icmp .ne 10, 3) := by decide +kernel
theorem dX3_told_70 : decode cX3_told 70 = .ok (.aload_n 0, 1) := by decide +kernel
theorem dX3_told_71 : decode cX3_told 71 = .ok (.getfield 136, 3) := by decide +kernel
theorem dX3_told_74 : decode cX3_told 74 = .ok (.goto 7, 3) := by decide +kernel
theorem dX3_told_77 : decode cX3_told 77 = .ok (.aload_n 0, 1) := by decide +kernel
theorem dX3_told_78 : decode cX3_told 78 = .ok (.getfield 139, 3) := by decide +kernel
theorem dX3_told_81 : decode cX3_told 81 = .ok (.ireturn, 1) := by decide +kernel
theorem dX3_of_0 : decode cX3_of 0 = .ok (.aload_n 0, 1) := by decide +kernel
theorem dX3_of_1 : decode cX3_of 1 = .ok (.iload_n 1, 1) := by decide +kernel
theorem dX3_of_2 : decode cX3_of 2 = .ok (.invokevirtual 114, 3) := by decide +kernel
theorem dX3_of_5 : decode cX3_of 5 = .ok (.ifCond .eq 13, 3) := by decide +kernel
theorem dX3_of_8 : decode cX3_of 8 = .ok (.iload_n 2, 1) := by decide +kernel
theorem dX3_of_9 : decode cX3_of 9 = .ok (.iconst 0, 1) := by decide +kernel
theorem dX3_of_10 : decode cX3_of 10 = .ok (.bipush 6, 2) := by decide +kernel
theorem dX3_of_12 : decode cX3_of 12 = .ok (.invokestatic 78, 3) := by decide +kernel
theorem dX3_of_15 : decode cX3_of 15 = .ok (.ifCond .ne 5, 3) := by decide +kernel
theorem dX3_of_18 : decode cX3_of 18 = .ok (.iconst 0, 1) := by decide +kernel
theorem dX3_of_19 : decode cX3_of 19 = .ok (.ireturn, 1) := by decide +kernel
theorem dX3_of_20 : decode cX3_of 20 = .ok (.iload_n 2, 1) := by decide +kernel
theorem dX3_of_21 : decode cX3_of 21 = .ok (.tableswitch 89 0 5 #[39, 46, 53, 60, 75, 82], 39) := by decide +kernel
theorem dX3_of_60 : decode cX3_of 60 = .ok (.aload_n 0, 1) := by decide +kernel
theorem dX3_of_61 : decode cX3_of 61 = .ok (.getfield 50, 3) := by decide +kernel
theorem dX3_of_64 : decode cX3_of 64 = .ok (.iload_n 1, 1) := by decide +kernel
theorem dX3_of_65 : decode cX3_of 65 = .ok (.iaload, 1) := by decide +kernel
theorem dX3_of_66 : decode cX3_of 66 = .ok (.ireturn, 1) := by decide +kernel
theorem dX3_of_67 : decode cX3_of 67 = .ok (.aload_n 0, 1) := by decide +kernel
theorem dX3_of_68 : decode cX3_of 68 = .ok (.getfield 56, 3) := by decide +kernel
theorem dX3_of_71 : decode cX3_of 71 = .ok (.iload_n 1, 1) := by decide +kernel
theorem dX3_of_72 : decode cX3_of 72 = .ok (.iaload, 1) := by decide +kernel
theorem dX3_of_73 : decode cX3_of 73 = .ok (.ireturn, 1) := by decide +kernel
theorem dX3_of_74 : decode cX3_of 74 = .ok (.aload_n 0, 1) := by decide +kernel
theorem dX3_of_75 : decode cX3_of 75 = .ok (.getfield 59, 3) := by decide +kernel
theorem dX3_of_78 : decode cX3_of 78 = .ok (.iload_n 1, 1) := by decide +kernel
theorem dX3_of_79 : decode cX3_of 79 = .ok (.iaload, 1) := by decide +kernel
theorem dX3_of_80 : decode cX3_of 80 = .ok (.ireturn, 1) := by decide +kernel
theorem dX3_of_81 : decode cX3_of 81 = .ok (.aload_n 0, 1) := by decide +kernel
theorem dX3_of_82 : decode cX3_of 82 = .ok (.getfield 29, 3) := by decide +kernel
theorem dX3_of_85 : decode cX3_of 85 = .ok (.iload_n 1, 1) := by decide +kernel
theorem dX3_of_86 : decode cX3_of 86 = .ok (.baload, 1) := by decide +kernel
theorem dX3_of_87 : decode cX3_of 87 = .ok (.ifCond .eq 7, 3) := by decide +kernel
theorem dX3_of_90 : decode cX3_of 90 = .ok (.iconst 1, 1) := by decide +kernel
theorem dX3_of_91 : decode cX3_of 91 = .ok (.goto 4, 3) := by decide +kernel
theorem dX3_of_94 : decode cX3_of 94 = .ok (.iconst 0, 1) := by decide +kernel
theorem dX3_of_95 : decode cX3_of 95 = .ok (.ireturn, 1) := by decide +kernel
theorem dX3_of_96 : decode cX3_of 96 = .ok (.aload_n 0, 1) := by decide +kernel
theorem dX3_of_97 : decode cX3_of 97 = .ok (.getfield 53, 3) := by decide +kernel
theorem dX3_of_100 : decode cX3_of 100 = .ok (.iload_n 1, 1) := by decide +kernel
theorem dX3_of_101 : decode cX3_of 101 = .ok (.iaload, 1) := by decide +kernel
theorem dX3_of_102 : decode cX3_of 102 = .ok (.ireturn, 1) := by decide +kernel
theorem dX3_of_103 : decode cX3_of 103 = .ok (.aload_n 0, 1) := by decide +kernel
theorem dX3_of_104 : decode cX3_of 104 = .ok (.getfield 47, 3) := by decide +kernel
theorem dX3_of_107 : decode cX3_of 107 = .ok (.iload_n 1, 1) := by decide +kernel
theorem dX3_of_108 : decode cX3_of 108 = .ok (.iaload, 1) := by decide +kernel
theorem dX3_of_109 : decode cX3_of 109 = .ok (.ireturn, 1) := by decide +kernel
theorem dX3_of_110 : decode cX3_of 110 = .ok (.aload_n 0, 1) := by decide +kernel
theorem dX3_of_111 : decode cX3_of 111 = .ok (.getfield 32, 3) := by decide +kernel
theorem dX3_of_114 : decode cX3_of 114 = .ok (.iload_n 1, 1) := by decide +kernel
theorem dX3_of_115 : decode cX3_of 115 = .ok (.baload, 1) := by decide +kernel
theorem dX3_of_116 : decode cX3_of 116 = .ok (.ifCond .eq 7, 3) := by decide +kernel
theorem dX3_of_119 : decode cX3_of 119 = .ok (.iconst 1, 1) := by decide +kernel
theorem dX3_of_120 : decode cX3_of 120 = .ok (.goto 4, 3) := by decide +kernel
theorem dX3_of_123 : decode cX3_of 123 = .ok (.iconst 0, 1) := by decide +kernel
theorem dX3_of_124 : decode cX3_of 124 = .ok (.ireturn, 1) := by decide +kernel
theorem dX3_count_0 : decode cX3_count 0 = .ok (.iload_n 1, 1) := by decide +kernel
theorem dX3_count_1 : decode cX3_count 1 = .ok (.iconst 1, 1) := by decide +kernel
theorem dX3_count_2 : decode cX3_count 2 = .ok (.if_icmp .ne 38, 3) := by decide +kernel
theorem dX3_count_5 : decode cX3_count 5 = .ok (.iconst 0, 1) := by decide +kernel
theorem dX3_count_6 : decode cX3_count 6 = .ok (.istore_n 2, 1) := by decide +kernel
theorem dX3_count_7 : decode cX3_count 7 = .ok (.iconst 0, 1) := by decide +kernel
theorem dX3_count_8 : decode cX3_count 8 = .ok (.istore_n 3, 1) := by decide +kernel
theorem dX3_count_9 : decode cX3_count 9 = .ok (.iload_n 3, 1) := by decide +kernel
theorem dX3_count_10 : decode cX3_count 10 = .ok (.bipush 8, 2) := by decide +kernel
theorem dX3_count_12 : decode cX3_count 12 = .ok (.if_icmp .ge 26, 3) := by decide +kernel
theorem dX3_count_15 : decode cX3_count 15 = .ok (.iload_n 2, 1) := by decide +kernel
theorem dX3_count_16 : decode cX3_count 16 = .ok (.aload_n 0, 1) := by decide +kernel
theorem dX3_count_17 : decode cX3_count 17 = .ok (.getfield 25, 3) := by decide +kernel
theorem dX3_count_20 : decode cX3_count 20 = .ok (.iload_n 3, 1) := by decide +kernel
theorem dX3_count_21 : decode cX3_count 21 = .ok (.baload, 1) := by decide +kernel
theorem dX3_count_22 : decode cX3_count 22 = .ok (.ifCond .eq 7, 3) := by decide +kernel
theorem dX3_count_25 : decode cX3_count 25 = .ok (.iconst 1, 1) := by decide +kernel
theorem dX3_count_26 : decode cX3_count 26 = .ok (.goto 4, 3) := by decide +kernel
theorem dX3_count_29 : decode cX3_count 29 = .ok (.iconst 0, 1) := by decide +kernel
theorem dX3_count_30 : decode cX3_count 30 = .ok (.iadd, 1) := by decide +kernel
theorem dX3_count_31 : decode cX3_count 31 = .ok (.istore_n 2, 1) := by decide +kernel
theorem dX3_count_32 : decode cX3_count 32 = .ok (.iinc 3 1, 3) := by decide +kernel
theorem dX3_count_35 : decode cX3_count 35 = .ok (.goto (-26), 3) := by decide +kernel
theorem dX3_count_38 : decode cX3_count 38 = .ok (.iload_n 2, 1) := by decide +kernel
theorem dX3_count_39 : decode cX3_count 39 = .ok (.ireturn, 1) := by decide +kernel
theorem dX3_count_40 : decode cX3_count 40 = .ok (.iload_n 1, 1) := by decide +kernel
theorem dX3_count_41 : decode cX3_count 41 = .ok (.ifCond .ne 10, 3) := by decide +kernel
theorem dX3_count_44 : decode cX3_count 44 = .ok (.aload_n 0, 1) := by decide +kernel
theorem dX3_count_45 : decode cX3_count 45 = .ok (.getfield 74, 3) := by decide +kernel
theorem dX3_count_48 : decode cX3_count 48 = .ok (.goto 17, 3) := by decide +kernel
theorem dX3_count_51 : decode cX3_count 51 = .ok (.iload_n 1, 1) := by decide +kernel
theorem dX3_count_52 : decode cX3_count 52 = .ok (.iconst 2, 1) := by decide +kernel
theorem dX3_count_53 : decode cX3_count 53 = .ok (.if_icmp .ne 10, 3) := by decide +kernel
theorem dX3_count_56 : decode cX3_count 56 = .ok (.aload_n 0, 1) := by decide +kernel
theorem dX3_count_57 : decode cX3_count 57 = .ok (.getfield 158, 3) := by decide +kernel
theorem dX3_count_60 : decode cX3_count 60 = .ok (.goto 5, 3) := by decide +kernel
theorem dX3_count_63 : decode cX3_count 63 = .ok (.bipush (-2), 2) := by decide +kernel
theorem dX3_count_65 : decode cX3_count 65 = .ok (.ireturn, 1) := by decide +kernel
theorem dL_law_0 : decode cL_law 0 = .ok (.new 7, 3) := by decide +kernel
theorem dL_law_3 : decode cL_law 3 = .ok (.dup, 1) := by decide +kernel
theorem dL_law_4 : decode cL_law 4 = .ok (.invokespecial 9, 3) := by decide +kernel
theorem dL_law_7 : decode cL_law 7 = .ok (.astore_n 1, 1) := by decide +kernel
theorem dL_law_8 : decode cL_law 8 = .ok (.new 10, 3) := by decide +kernel
theorem dL_law_11 : decode cL_law 11 = .ok (.dup, 1) := by decide +kernel
theorem dL_law_12 : decode cL_law 12 = .ok (.invokespecial 12, 3) := by decide +kernel
theorem dL_law_15 : decode cL_law 15 = .ok (.astore_n 2, 1) := by decide +kernel
theorem dL_law_16 : decode cL_law 16 = .ok (.iconst 0, 1) := by decide +kernel
theorem dL_law_17 : decode cL_law 17 = .ok (.istore_n 3, 1) := by decide +kernel
theorem dL_law_18 : decode cL_law 18 = .ok (.iload_n 3, 1) := by decide +kernel
theorem dL_law_19 : decode cL_law 19 = .ok (.aload_n 0, 1) := by decide +kernel
theorem dL_law_20 : decode cL_law 20 = .ok (.arraylength, 1) := by decide +kernel
theorem dL_law_21 : decode cL_law 21 = .ok (.bipush 6, 2) := by decide +kernel
theorem dL_law_23 : decode cL_law 23 = .ok (.isub, 1) := by decide +kernel
theorem dL_law_24 : decode cL_law 24 = .ok (.if_icmp .gt 681, 3) := by decide +kernel
theorem dL_law_27 : decode cL_law 27 = .ok (.aload_n 0, 1) := by decide +kernel
theorem dL_law_28 : decode cL_law 28 = .ok (.iload_n 3, 1) := by decide +kernel
theorem dL_law_29 : decode cL_law 29 = .ok (.iaload, 1) := by decide +kernel
theorem dL_law_30 : decode cL_law 30 = .ok (.bipush 15, 2) := by decide +kernel
theorem dL_law_32 : decode cL_law 32 = .ok (.iand, 1) := by decide +kernel
theorem dL_law_33 : decode cL_law 33 = .ok (.tableswitch 666 0 14 #[75, 108, 151, 194, 227, 270, 303, 346, 379, 442, 505, 554, 587, 610, 643], 75) := by decide +kernel
theorem dL_law_108 : decode cL_law 108 = .ok (.aload_n 1, 1) := by decide +kernel
theorem dL_law_109 : decode cL_law 109 = .ok (.aload_n 0, 1) := by decide +kernel
theorem dL_law_110 : decode cL_law 110 = .ok (.iload_n 3, 1) := by decide +kernel
theorem dL_law_111 : decode cL_law 111 = .ok (.iconst 1, 1) := by decide +kernel
theorem dL_law_112 : decode cL_law 112 = .ok (.iadd, 1) := by decide +kernel
theorem dL_law_113 : decode cL_law 113 = .ok (.iaload, 1) := by decide +kernel
theorem dL_law_114 : decode cL_law 114 = .ok (.aload_n 0, 1) := by decide +kernel
theorem dL_law_115 : decode cL_law 115 = .ok (.iload_n 3, 1) := by decide +kernel
theorem dL_law_116 : decode cL_law 116 = .ok (.iconst 2, 1) := by decide +kernel
theorem dL_law_117 : decode cL_law 117 = .ok (.iadd, 1) := by decide +kernel
theorem dL_law_118 : decode cL_law 118 = .ok (.iaload, 1) := by decide +kernel
theorem dL_law_119 : decode cL_law 119 = .ok (.invokevirtual 13, 3) := by decide +kernel
theorem dL_law_122 : decode cL_law 122 = .ok (.aload_n 2, 1) := by decide +kernel
theorem dL_law_123 : decode cL_law 123 = .ok (.aload_n 0, 1) := by decide +kernel
theorem dL_law_124 : decode cL_law 124 = .ok (.iload_n 3, 1) := by decide +kernel
theorem dL_law_125 : decode cL_law 125 = .ok (.iconst 1, 1) := by decide +kernel
theorem dL_law_126 : decode cL_law 126 = .ok (.iadd, 1) := by decide +kernel
theorem dL_law_127 : decode cL_law 127 = .ok (.iaload, 1) := by decide +kernel
theorem dL_law_128 : decode cL_law 128 = .ok (.aload_n 0, 1) := by decide +kernel
theorem dL_law_129 : decode cL_law 129 = .ok (.iload_n 3, 1) := by decide +kernel
theorem dL_law_130 : decode cL_law 130 = .ok (.iconst 2, 1) := by decide +kernel
theorem dL_law_131 : decode cL_law 131 = .ok (.iadd, 1) := by decide +kernel
theorem dL_law_132 : decode cL_law 132 = .ok (.iaload, 1) := by decide +kernel
theorem dL_law_133 : decode cL_law 133 = .ok (.invokevirtual 17, 3) := by decide +kernel
theorem dL_law_136 : decode cL_law 136 = .ok (.if_icmp .eq 563, 3) := by decide +kernel
theorem dL_law_139 : decode cL_law 139 = .ok (.iconst 0, 1) := by decide +kernel
theorem dL_law_140 : decode cL_law 140 = .ok (.ireturn, 1) := by decide +kernel
theorem dL_law_141 : decode cL_law 141 = .ok (.aload_n 1, 1) := by decide +kernel
theorem dL_law_142 : decode cL_law 142 = .ok (.aload_n 0, 1) := by decide +kernel
theorem dL_law_143 : decode cL_law 143 = .ok (.iload_n 3, 1) := by decide +kernel
theorem dL_law_144 : decode cL_law 144 = .ok (.iconst 1, 1) := by decide +kernel
theorem dL_law_145 : decode cL_law 145 = .ok (.iadd, 1) := by decide +kernel
theorem dL_law_146 : decode cL_law 146 = .ok (.iaload, 1) := by decide +kernel
theorem dL_law_147 : decode cL_law 147 = .ok (.aload_n 0, 1) := by decide +kernel
theorem dL_law_148 : decode cL_law 148 = .ok (.iload_n 3, 1) := by decide +kernel
theorem dL_law_149 : decode cL_law 149 = .ok (.iconst 2, 1) := by decide +kernel
theorem dL_law_150 : decode cL_law 150 = .ok (.iadd, 1) := by decide +kernel
theorem dL_law_151 : decode cL_law 151 = .ok (.iaload, 1) := by decide +kernel
theorem dL_law_152 : decode cL_law 152 = .ok (.aload_n 0, 1) := by decide +kernel
theorem dL_law_153 : decode cL_law 153 = .ok (.iload_n 3, 1) := by decide +kernel
theorem dL_law_154 : decode cL_law 154 = .ok (.iconst 3, 1) := by decide +kernel
theorem dL_law_155 : decode cL_law 155 = .ok (.iadd, 1) := by decide +kernel
theorem dL_law_156 : decode cL_law 156 = .ok (.iaload, 1) := by decide +kernel
theorem dL_law_157 : decode cL_law 157 = .ok (.invokevirtual 18, 3) := by decide +kernel
theorem dL_law_160 : decode cL_law 160 = .ok (.aload_n 2, 1) := by decide +kernel
theorem dL_law_161 : decode cL_law 161 = .ok (.aload_n 0, 1) := by decide +kernel
theorem dL_law_162 : decode cL_law 162 = .ok (.iload_n 3, 1) := by decide +kernel
theorem dL_law_163 : decode cL_law 163 = .ok (.iconst 1, 1) := by decide +kernel
theorem dL_law_164 : decode cL_law 164 = .ok (.iadd, 1) := by decide +kernel
theorem dL_law_165 : decode cL_law 165 = .ok (.iaload, 1) := by decide +kernel
theorem dL_law_166 : decode cL_law 166 = .ok (.aload_n 0, 1) := by decide +kernel
theorem dL_law_167 : decode cL_law 167 = .ok (.iload_n 3, 1) := by decide +kernel
theorem dL_law_168 : decode cL_law 168 = .ok (.iconst 2, 1) := by decide +kernel
theorem dL_law_169 : decode cL_law 169 = .ok (.iadd, 1) := by decide +kernel
theorem dL_law_170 : decode cL_law 170 = .ok (.iaload, 1) := by decide +kernel
theorem dL_law_171 : decode cL_law 171 = .ok (.aload_n 0, 1) := by decide +kernel
theorem dL_law_172 : decode cL_law 172 = .ok (.iload_n 3, 1) := by decide +kernel
theorem dL_law_173 : decode cL_law 173 = .ok (.iconst 3, 1) := by decide +kernel
theorem dL_law_174 : decode cL_law 174 = .ok (.iadd, 1) := by decide +kernel
theorem dL_law_175 : decode cL_law 175 = .ok (.iaload, 1) := by decide +kernel
theorem dL_law_176 : decode cL_law 176 = .ok (.invokevirtual 22, 3) := by decide +kernel
theorem dL_law_179 : decode cL_law 179 = .ok (.if_icmp .eq 520, 3) := by decide +kernel
theorem dL_law_182 : decode cL_law 182 = .ok (.iconst 0, 1) := by decide +kernel
theorem dL_law_183 : decode cL_law 183 = .ok (.ireturn, 1) := by decide +kernel
theorem dL_law_184 : decode cL_law 184 = .ok (.aload_n 1, 1) := by decide +kernel
theorem dL_law_185 : decode cL_law 185 = .ok (.aload_n 0, 1) := by decide +kernel
theorem dL_law_186 : decode cL_law 186 = .ok (.iload_n 3, 1) := by decide +kernel
theorem dL_law_187 : decode cL_law 187 = .ok (.iconst 1, 1) := by decide +kernel
theorem dL_law_188 : decode cL_law 188 = .ok (.iadd, 1) := by decide +kernel
theorem dL_law_189 : decode cL_law 189 = .ok (.iaload, 1) := by decide +kernel
theorem dL_law_190 : decode cL_law 190 = .ok (.aload_n 0, 1) := by decide +kernel
theorem dL_law_191 : decode cL_law 191 = .ok (.iload_n 3, 1) := by decide +kernel
theorem dL_law_192 : decode cL_law 192 = .ok (.iconst 2, 1) := by decide +kernel
theorem dL_law_193 : decode cL_law 193 = .ok (.iadd, 1) := by decide +kernel
theorem dL_law_194 : decode cL_law 194 = .ok (.iaload, 1) := by decide +kernel
theorem dL_law_195 : decode cL_law 195 = .ok (.aload_n 0, 1) := by decide +kernel
theorem dL_law_196 : decode cL_law 196 = .ok (.iload_n 3, 1) := by decide +kernel
theorem dL_law_197 : decode cL_law 197 = .ok (.iconst 3, 1) := by decide +kernel
theorem dL_law_198 : decode cL_law 198 = .ok (.iadd, 1) := by decide +kernel
theorem dL_law_199 : decode cL_law 199 = .ok (.iaload, 1) := by decide +kernel
theorem dL_law_200 : decode cL_law 200 = .ok (.invokevirtual 23, 3) := by decide +kernel
theorem dL_law_203 : decode cL_law 203 = .ok (.aload_n 2, 1) := by decide +kernel
theorem dL_law_204 : decode cL_law 204 = .ok (.aload_n 0, 1) := by decide +kernel
theorem dL_law_205 : decode cL_law 205 = .ok (.iload_n 3, 1) := by decide +kernel
theorem dL_law_206 : decode cL_law 206 = .ok (.iconst 1, 1) := by decide +kernel
theorem dL_law_207 : decode cL_law 207 = .ok (.iadd, 1) := by decide +kernel
theorem dL_law_208 : decode cL_law 208 = .ok (.iaload, 1) := by decide +kernel
theorem dL_law_209 : decode cL_law 209 = .ok (.aload_n 0, 1) := by decide +kernel
theorem dL_law_210 : decode cL_law 210 = .ok (.iload_n 3, 1) := by decide +kernel
theorem dL_law_211 : decode cL_law 211 = .ok (.iconst 2, 1) := by decide +kernel
theorem dL_law_212 : decode cL_law 212 = .ok (.iadd, 1) := by decide +kernel
theorem dL_law_213 : decode cL_law 213 = .ok (.iaload, 1) := by decide +kernel
theorem dL_law_214 : decode cL_law 214 = .ok (.aload_n 0, 1) := by decide +kernel
theorem dL_law_215 : decode cL_law 215 = .ok (.iload_n 3, 1) := by decide +kernel
theorem dL_law_216 : decode cL_law 216 = .ok (.iconst 3, 1) := by decide +kernel
theorem dL_law_217 : decode cL_law 217 = .ok (.iadd, 1) := by decide +kernel
theorem dL_law_218 : decode cL_law 218 = .ok (.iaload, 1) := by decide +kernel
theorem dL_law_219 : decode cL_law 219 = .ok (.invokevirtual 26, 3) := by decide +kernel
theorem dL_law_222 : decode cL_law 222 = .ok (.if_icmp .eq 477, 3) := by decide +kernel
theorem dL_law_225 : decode cL_law 225 = .ok (.iconst 0, 1) := by decide +kernel
theorem dL_law_226 : decode cL_law 226 = .ok (.ireturn, 1) := by decide +kernel
theorem dL_law_227 : decode cL_law 227 = .ok (.aload_n 1, 1) := by decide +kernel
theorem dL_law_228 : decode cL_law 228 = .ok (.aload_n 0, 1) := by decide +kernel
theorem dL_law_229 : decode cL_law 229 = .ok (.iload_n 3, 1) := by decide +kernel
theorem dL_law_230 : decode cL_law 230 = .ok (.iconst 1, 1) := by decide +kernel
theorem dL_law_231 : decode cL_law 231 = .ok (.iadd, 1) := by decide +kernel
theorem dL_law_232 : decode cL_law 232 = .ok (.iaload, 1) := by decide +kernel
theorem dL_law_233 : decode cL_law 233 = .ok (.aload_n 0, 1) := by decide +kernel
theorem dL_law_234 : decode cL_law 234 = .ok (.iload_n 3, 1) := by decide +kernel
theorem dL_law_235 : decode cL_law 235 = .ok (.iconst 2, 1) := by decide +kernel
theorem dL_law_236 : decode cL_law 236 = .ok (.iadd, 1) := by decide +kernel
theorem dL_law_237 : decode cL_law 237 = .ok (.iaload, 1) := by decide +kernel
theorem dL_law_238 : decode cL_law 238 = .ok (.invokevirtual 27, 3) := by decide +kernel
theorem dL_law_241 : decode cL_law 241 = .ok (.aload_n 2, 1) := by decide +kernel
theorem dL_law_242 : decode cL_law 242 = .ok (.aload_n 0, 1) := by decide +kernel
theorem dL_law_243 : decode cL_law 243 = .ok (.iload_n 3, 1) := by decide +kernel
theorem dL_law_244 : decode cL_law 244 = .ok (.iconst 1, 1) := by decide +kernel
theorem dL_law_245 : decode cL_law 245 = .ok (.iadd, 1) := by decide +kernel
theorem dL_law_246 : decode cL_law 246 = .ok (.iaload, 1) := by decide +kernel
theorem dL_law_247 : decode cL_law 247 = .ok (.aload_n 0, 1) := by decide +kernel
theorem dL_law_248 : decode cL_law 248 = .ok (.iload_n 3, 1) := by decide +kernel
theorem dL_law_249 : decode cL_law 249 = .ok (.iconst 2, 1) := by decide +kernel
theorem dL_law_250 : decode cL_law 250 = .ok (.iadd, 1) := by decide +kernel
theorem dL_law_251 : decode cL_law 251 = .ok (.iaload, 1) := by decide +kernel
theorem dL_law_252 : decode cL_law 252 = .ok (.invokevirtual 30, 3) := by decide +kernel
theorem dL_law_255 : decode cL_law 255 = .ok (.if_icmp .eq 444, 3) := by decide +kernel
theorem dL_law_258 : decode cL_law 258 = .ok (.iconst 0, 1) := by decide +kernel
theorem dL_law_259 : decode cL_law 259 = .ok (.ireturn, 1) := by decide +kernel
theorem dL_law_260 : decode cL_law 260 = .ok (.aload_n 1, 1) := by decide +kernel
theorem dL_law_261 : decode cL_law 261 = .ok (.aload_n 0, 1) := by decide +kernel
theorem dL_law_262 : decode cL_law 262 = .ok (.iload_n 3, 1) := by decide +kernel
theorem dL_law_263 : decode cL_law 263 = .ok (.iconst 1, 1) := by decide +kernel
theorem dL_law_264 : decode cL_law 264 = .ok (.iadd, 1) := by decide +kernel
theorem dL_law_265 : decode cL_law 265 = .ok (.iaload, 1) := by decide +kernel
theorem dL_law_266 : decode cL_law 266 = .ok (.aload_n 0, 1) := by decide +kernel
theorem dL_law_267 : decode cL_law 267 = .ok (.iload_n 3, 1) := by decide +kernel
theorem dL_law_268 : decode cL_law 268 = .ok (.iconst 2, 1) := by decide +kernel
theorem dL_law_269 : decode cL_law 269 = .ok (.iadd, 1) := by decide +kernel
theorem dL_law_270 : decode cL_law 270 = .ok (.iaload, 1) := by decide +kernel
theorem dL_law_271 : decode cL_law 271 = .ok (.aload_n 0, 1) := by decide +kernel
theorem dL_law_272 : decode cL_law 272 = .ok (.iload_n 3, 1) := by decide +kernel
theorem dL_law_273 : decode cL_law 273 = .ok (.iconst 3, 1) := by decide +kernel
theorem dL_law_274 : decode cL_law 274 = .ok (.iadd, 1) := by decide +kernel
theorem dL_law_275 : decode cL_law 275 = .ok (.iaload, 1) := by decide +kernel
theorem dL_law_276 : decode cL_law 276 = .ok (.invokevirtual 31, 3) := by decide +kernel
theorem dL_law_279 : decode cL_law 279 = .ok (.aload_n 2, 1) := by decide +kernel
theorem dL_law_280 : decode cL_law 280 = .ok (.aload_n 0, 1) := by decide +kernel
theorem dL_law_281 : decode cL_law 281 = .ok (.iload_n 3, 1) := by decide +kernel
theorem dL_law_282 : decode cL_law 282 = .ok (.iconst 1, 1) := by decide +kernel
theorem dL_law_283 : decode cL_law 283 = .ok (.iadd, 1) := by decide +kernel
theorem dL_law_284 : decode cL_law 284 = .ok (.iaload, 1) := by decide +kernel
theorem dL_law_285 : decode cL_law 285 = .ok (.aload_n 0, 1) := by decide +kernel
theorem dL_law_286 : decode cL_law 286 = .ok (.iload_n 3, 1) := by decide +kernel
theorem dL_law_287 : decode cL_law 287 = .ok (.iconst 2, 1) := by decide +kernel
theorem dL_law_288 : decode cL_law 288 = .ok (.iadd, 1) := by decide +kernel
theorem dL_law_289 : decode cL_law 289 = .ok (.iaload, 1) := by decide +kernel
theorem dL_law_290 : decode cL_law 290 = .ok (.aload_n 0, 1) := by decide +kernel
theorem dL_law_291 : decode cL_law 291 = .ok (.iload_n 3, 1) := by decide +kernel
theorem dL_law_292 : decode cL_law 292 = .ok (.iconst 3, 1) := by decide +kernel
theorem dL_law_293 : decode cL_law 293 = .ok (.iadd, 1) := by decide +kernel
theorem dL_law_294 : decode cL_law 294 = .ok (.iaload, 1) := by decide +kernel
theorem dL_law_295 : decode cL_law 295 = .ok (.invokevirtual 34, 3) := by decide +kernel
theorem dL_law_298 : decode cL_law 298 = .ok (.if_icmp .eq 401, 3) := by decide +kernel
theorem dL_law_301 : decode cL_law 301 = .ok (.iconst 0, 1) := by decide +kernel
theorem dL_law_302 : decode cL_law 302 = .ok (.ireturn, 1) := by decide +kernel
theorem dL_law_303 : decode cL_law 303 = .ok (.aload_n 1, 1) := by decide +kernel
theorem dL_law_304 : decode cL_law 304 = .ok (.aload_n 0, 1) := by decide +kernel
theorem dL_law_305 : decode cL_law 305 = .ok (.iload_n 3, 1) := by decide +kernel
theorem dL_law_306 : decode cL_law 306 = .ok (.iconst 1, 1) := by decide +kernel
theorem dL_law_307 : decode cL_law 307 = .ok (.iadd, 1) := by decide +kernel
theorem dL_law_308 : decode cL_law 308 = .ok (.iaload, 1) := by decide +kernel
theorem dL_law_309 : decode cL_law 309 = .ok (.aload_n 0, 1) := by decide +kernel
theorem dL_law_310 : decode cL_law 310 = .ok (.iload_n 3, 1) := by decide +kernel
theorem dL_law_311 : decode cL_law 311 = .ok (.iconst 2, 1) := by decide +kernel
theorem dL_law_312 : decode cL_law 312 = .ok (.iadd, 1) := by decide +kernel
theorem dL_law_313 : decode cL_law 313 = .ok (.iaload, 1) := by decide +kernel
theorem dL_law_314 : decode cL_law 314 = .ok (.invokevirtual 35, 3) := by decide +kernel
theorem dL_law_317 : decode cL_law 317 = .ok (.aload_n 2, 1) := by decide +kernel
theorem dL_law_318 : decode cL_law 318 = .ok (.aload_n 0, 1) := by decide +kernel
theorem dL_law_319 : decode cL_law 319 = .ok (.iload_n 3, 1) := by decide +kernel
theorem dL_law_320 : decode cL_law 320 = .ok (.iconst 1, 1) := by decide +kernel
theorem dL_law_321 : decode cL_law 321 = .ok (.iadd, 1) := by decide +kernel
theorem dL_law_322 : decode cL_law 322 = .ok (.iaload, 1) := by decide +kernel
theorem dL_law_323 : decode cL_law 323 = .ok (.aload_n 0, 1) := by decide +kernel
theorem dL_law_324 : decode cL_law 324 = .ok (.iload_n 3, 1) := by decide +kernel
theorem dL_law_325 : decode cL_law 325 = .ok (.iconst 2, 1) := by decide +kernel
theorem dL_law_326 : decode cL_law 326 = .ok (.iadd, 1) := by decide +kernel
theorem dL_law_327 : decode cL_law 327 = .ok (.iaload, 1) := by decide +kernel
theorem dL_law_328 : decode cL_law 328 = .ok (.invokevirtual 38, 3) := by decide +kernel
theorem dL_law_331 : decode cL_law 331 = .ok (.if_icmp .eq 368, 3) := by decide +kernel
theorem dL_law_334 : decode cL_law 334 = .ok (.iconst 0, 1) := by decide +kernel
theorem dL_law_335 : decode cL_law 335 = .ok (.ireturn, 1) := by decide +kernel
theorem dL_law_336 : decode cL_law 336 = .ok (.aload_n 1, 1) := by decide +kernel
theorem dL_law_337 : decode cL_law 337 = .ok (.aload_n 0, 1) := by decide +kernel
theorem dL_law_338 : decode cL_law 338 = .ok (.iload_n 3, 1) := by decide +kernel
theorem dL_law_339 : decode cL_law 339 = .ok (.iconst 1, 1) := by decide +kernel
theorem dL_law_340 : decode cL_law 340 = .ok (.iadd, 1) := by decide +kernel
theorem dL_law_341 : decode cL_law 341 = .ok (.iaload, 1) := by decide +kernel
theorem dL_law_342 : decode cL_law 342 = .ok (.aload_n 0, 1) := by decide +kernel
theorem dL_law_343 : decode cL_law 343 = .ok (.iload_n 3, 1) := by decide +kernel
theorem dL_law_344 : decode cL_law 344 = .ok (.iconst 2, 1) := by decide +kernel
theorem dL_law_345 : decode cL_law 345 = .ok (.iadd, 1) := by decide +kernel
theorem dL_law_346 : decode cL_law 346 = .ok (.iaload, 1) := by decide +kernel
theorem dL_law_347 : decode cL_law 347 = .ok (.aload_n 0, 1) := by decide +kernel
theorem dL_law_348 : decode cL_law 348 = .ok (.iload_n 3, 1) := by decide +kernel
theorem dL_law_349 : decode cL_law 349 = .ok (.iconst 3, 1) := by decide +kernel
theorem dL_law_350 : decode cL_law 350 = .ok (.iadd, 1) := by decide +kernel
theorem dL_law_351 : decode cL_law 351 = .ok (.iaload, 1) := by decide +kernel
theorem dL_law_352 : decode cL_law 352 = .ok (.invokevirtual 39, 3) := by decide +kernel
theorem dL_law_355 : decode cL_law 355 = .ok (.aload_n 2, 1) := by decide +kernel
theorem dL_law_356 : decode cL_law 356 = .ok (.aload_n 0, 1) := by decide +kernel
theorem dL_law_357 : decode cL_law 357 = .ok (.iload_n 3, 1) := by decide +kernel
theorem dL_law_358 : decode cL_law 358 = .ok (.iconst 1, 1) := by decide +kernel
theorem dL_law_359 : decode cL_law 359 = .ok (.iadd, 1) := by decide +kernel
theorem dL_law_360 : decode cL_law 360 = .ok (.iaload, 1) := by decide +kernel
theorem dL_law_361 : decode cL_law 361 = .ok (.aload_n 0, 1) := by decide +kernel
theorem dL_law_362 : decode cL_law 362 = .ok (.iload_n 3, 1) := by decide +kernel
theorem dL_law_363 : decode cL_law 363 = .ok (.iconst 2, 1) := by decide +kernel
theorem dL_law_364 : decode cL_law 364 = .ok (.iadd, 1) := by decide +kernel
theorem dL_law_365 : decode cL_law 365 = .ok (.iaload, 1) := by decide +kernel
theorem dL_law_366 : decode cL_law 366 = .ok (.aload_n 0, 1) := by decide +kernel
theorem dL_law_367 : decode cL_law 367 = .ok (.iload_n 3, 1) := by decide +kernel
theorem dL_law_368 : decode cL_law 368 = .ok (.iconst 3, 1) := by decide +kernel
theorem dL_law_369 : decode cL_law 369 = .ok (.iadd, 1) := by decide +kernel
theorem dL_law_370 : decode cL_law 370 = .ok (.iaload, 1) := by decide +kernel
theorem dL_law_371 : decode cL_law 371 = .ok (.invokevirtual 42, 3) := by decide +kernel
theorem dL_law_374 : decode cL_law 374 = .ok (.if_icmp .eq 325, 3) := by decide +kernel
theorem dL_law_377 : decode cL_law 377 = .ok (.iconst 0, 1) := by decide +kernel
theorem dL_law_378 : decode cL_law 378 = .ok (.ireturn, 1) := by decide +kernel
theorem dL_law_379 : decode cL_law 379 = .ok (.aload_n 1, 1) := by decide +kernel
theorem dL_law_380 : decode cL_law 380 = .ok (.aload_n 0, 1) := by decide +kernel
theorem dL_law_381 : decode cL_law 381 = .ok (.iload_n 3, 1) := by decide +kernel
theorem dL_law_382 : decode cL_law 382 = .ok (.iconst 1, 1) := by decide +kernel
theorem dL_law_383 : decode cL_law 383 = .ok (.iadd, 1) := by decide +kernel
theorem dL_law_384 : decode cL_law 384 = .ok (.iaload, 1) := by decide +kernel
theorem dL_law_385 : decode cL_law 385 = .ok (.aload_n 0, 1) := by decide +kernel
theorem dL_law_386 : decode cL_law 386 = .ok (.iload_n 3, 1) := by decide +kernel
theorem dL_law_387 : decode cL_law 387 = .ok (.iconst 2, 1) := by decide +kernel
theorem dL_law_388 : decode cL_law 388 = .ok (.iadd, 1) := by decide +kernel
theorem dL_law_389 : decode cL_law 389 = .ok (.iaload, 1) := by decide +kernel
theorem dL_law_390 : decode cL_law 390 = .ok (.invokevirtual 43, 3) := by decide +kernel
theorem dL_law_393 : decode cL_law 393 = .ok (.aload_n 2, 1) := by decide +kernel
theorem dL_law_394 : decode cL_law 394 = .ok (.aload_n 0, 1) := by decide +kernel
theorem dL_law_395 : decode cL_law 395 = .ok (.iload_n 3, 1) := by decide +kernel
theorem dL_law_396 : decode cL_law 396 = .ok (.iconst 1, 1) := by decide +kernel
theorem dL_law_397 : decode cL_law 397 = .ok (.iadd, 1) := by decide +kernel
theorem dL_law_398 : decode cL_law 398 = .ok (.iaload, 1) := by decide +kernel
theorem dL_law_399 : decode cL_law 399 = .ok (.aload_n 0, 1) := by decide +kernel
theorem dL_law_400 : decode cL_law 400 = .ok (.iload_n 3, 1) := by decide +kernel
theorem dL_law_401 : decode cL_law 401 = .ok (.iconst 2, 1) := by decide +kernel
theorem dL_law_402 : decode cL_law 402 = .ok (.iadd, 1) := by decide +kernel
theorem dL_law_403 : decode cL_law 403 = .ok (.iaload, 1) := by decide +kernel
theorem dL_law_404 : decode cL_law 404 = .ok (.invokevirtual 46, 3) := by decide +kernel
theorem dL_law_407 : decode cL_law 407 = .ok (.if_icmp .eq 292, 3) := by decide +kernel
theorem dL_law_410 : decode cL_law 410 = .ok (.iconst 0, 1) := by decide +kernel
theorem dL_law_411 : decode cL_law 411 = .ok (.ireturn, 1) := by decide +kernel
theorem dL_law_412 : decode cL_law 412 = .ok (.aload_n 1, 1) := by decide +kernel
theorem dL_law_413 : decode cL_law 413 = .ok (.aload_n 0, 1) := by decide +kernel
theorem dL_law_414 : decode cL_law 414 = .ok (.iload_n 3, 1) := by decide +kernel
theorem dL_law_415 : decode cL_law 415 = .ok (.iconst 1, 1) := by decide +kernel
theorem dL_law_416 : decode cL_law 416 = .ok (.iadd, 1) := by decide +kernel
theorem dL_law_417 : decode cL_law 417 = .ok (.iaload, 1) := by decide +kernel
theorem dL_law_418 : decode cL_law 418 = .ok (.aload_n 0, 1) := by decide +kernel
theorem dL_law_419 : decode cL_law 419 = .ok (.iload_n 3, 1) := by decide +kernel
theorem dL_law_420 : decode cL_law 420 = .ok (.iconst 2, 1) := by decide +kernel
theorem dL_law_421 : decode cL_law 421 = .ok (.iadd, 1) := by decide +kernel
theorem dL_law_422 : decode cL_law 422 = .ok (.iaload, 1) := by decide +kernel
theorem dL_law_423 : decode cL_law 423 = .ok (.aload_n 0, 1) := by decide +kernel
theorem dL_law_424 : decode cL_law 424 = .ok (.iload_n 3, 1) := by decide +kernel
theorem dL_law_425 : decode cL_law 425 = .ok (.iconst 3, 1) := by decide +kernel
theorem dL_law_426 : decode cL_law 426 = .ok (.iadd, 1) := by decide +kernel
theorem dL_law_427 : decode cL_law 427 = .ok (.iaload, 1) := by decide +kernel
theorem dL_law_428 : decode cL_law 428 = .ok (.aload_n 0, 1) := by decide +kernel
theorem dL_law_429 : decode cL_law 429 = .ok (.iload_n 3, 1) := by decide +kernel
theorem dL_law_430 : decode cL_law 430 = .ok (.iconst 4, 1) := by decide +kernel
theorem dL_law_431 : decode cL_law 431 = .ok (.iadd, 1) := by decide +kernel
theorem dL_law_432 : decode cL_law 432 = .ok (.iaload, 1) := by decide +kernel
theorem dL_law_433 : decode cL_law 433 = .ok (.aload_n 0, 1) := by decide +kernel
theorem dL_law_434 : decode cL_law 434 = .ok (.iload_n 3, 1) := by decide +kernel
theorem dL_law_435 : decode cL_law 435 = .ok (.iconst 5, 1) := by decide +kernel
theorem dL_law_436 : decode cL_law 436 = .ok (.iadd, 1) := by decide +kernel
theorem dL_law_437 : decode cL_law 437 = .ok (.iaload, 1) := by decide +kernel
theorem dL_law_438 : decode cL_law 438 = .ok (.invokevirtual 47, 3) := by decide +kernel
theorem dL_law_441 : decode cL_law 441 = .ok (.aload_n 2, 1) := by decide +kernel
theorem dL_law_442 : decode cL_law 442 = .ok (.aload_n 0, 1) := by decide +kernel
theorem dL_law_443 : decode cL_law 443 = .ok (.iload_n 3, 1) := by decide +kernel
theorem dL_law_444 : decode cL_law 444 = .ok (.iconst 1, 1) := by decide +kernel
theorem dL_law_445 : decode cL_law 445 = .ok (.iadd, 1) := by decide +kernel
theorem dL_law_446 : decode cL_law 446 = .ok (.iaload, 1) := by decide +kernel
theorem dL_law_447 : decode cL_law 447 = .ok (.aload_n 0, 1) := by decide +kernel
theorem dL_law_448 : decode cL_law 448 = .ok (.iload_n 3, 1) := by decide +kernel
theorem dL_law_449 : decode cL_law 449 = .ok (.iconst 2, 1) := by decide +kernel
theorem dL_law_450 : decode cL_law 450 = .ok (.iadd, 1) := by decide +kernel
theorem dL_law_451 : decode cL_law 451 = .ok (.iaload, 1) := by decide +kernel
theorem dL_law_452 : decode cL_law 452 = .ok (.aload_n 0, 1) := by decide +kernel
theorem dL_law_453 : decode cL_law 453 = .ok (.iload_n 3, 1) := by decide +kernel
theorem dL_law_454 : decode cL_law 454 = .ok (.iconst 3, 1) := by decide +kernel
theorem dL_law_455 : decode cL_law 455 = .ok (.iadd, 1) := by decide +kernel
theorem dL_law_456 : decode cL_law 456 = .ok (.iaload, 1) := by decide +kernel
theorem dL_law_457 : decode cL_law 457 = .ok (.aload_n 0, 1) := by decide +kernel
theorem dL_law_458 : decode cL_law 458 = .ok (.iload_n 3, 1) := by decide +kernel
theorem dL_law_459 : decode cL_law 459 = .ok (.iconst 4, 1) := by decide +kernel
theorem dL_law_460 : decode cL_law 460 = .ok (.iadd, 1) := by decide +kernel
theorem dL_law_461 : decode cL_law 461 = .ok (.iaload, 1) := by decide +kernel
theorem dL_law_462 : decode cL_law 462 = .ok (.aload_n 0, 1) := by decide +kernel
theorem dL_law_463 : decode cL_law 463 = .ok (.iload_n 3, 1) := by decide +kernel
theorem dL_law_464 : decode cL_law 464 = .ok (.iconst 5, 1) := by decide +kernel
theorem dL_law_465 : decode cL_law 465 = .ok (.iadd, 1) := by decide +kernel
theorem dL_law_466 : decode cL_law 466 = .ok (.iaload, 1) := by decide +kernel
theorem dL_law_467 : decode cL_law 467 = .ok (.invokevirtual 51, 3) := by decide +kernel
theorem dL_law_470 : decode cL_law 470 = .ok (.if_icmp .eq 229, 3) := by decide +kernel
theorem dL_law_473 : decode cL_law 473 = .ok (.iconst 0, 1) := by decide +kernel
theorem dL_law_474 : decode cL_law 474 = .ok (.ireturn, 1) := by decide +kernel
theorem dL_law_475 : decode cL_law 475 = .ok (.aload_n 1, 1) := by decide +kernel
theorem dL_law_476 : decode cL_law 476 = .ok (.aload_n 0, 1) := by decide +kernel
theorem dL_law_477 : decode cL_law 477 = .ok (.iload_n 3, 1) := by decide +kernel
theorem dL_law_478 : decode cL_law 478 = .ok (.iconst 1, 1) := by decide +kernel
theorem dL_law_479 : decode cL_law 479 = .ok (.iadd, 1) := by decide +kernel
theorem dL_law_480 : decode cL_law 480 = .ok (.iaload, 1) := by decide +kernel
theorem dL_law_481 : decode cL_law 481 = .ok (.aload_n 0, 1) := by decide +kernel
theorem dL_law_482 : decode cL_law 482 = .ok (.iload_n 3, 1) := by decide +kernel
theorem dL_law_483 : decode cL_law 483 = .ok (.iconst 2, 1) := by decide +kernel
theorem dL_law_484 : decode cL_law 484 = .ok (.iadd, 1) := by decide +kernel
theorem dL_law_485 : decode cL_law 485 = .ok (.iaload, 1) := by decide +kernel
theorem dL_law_486 : decode cL_law 486 = .ok (.aload_n 0, 1) := by decide +kernel
theorem dL_law_487 : decode cL_law 487 = .ok (.iload_n 3, 1) := by decide +kernel
theorem dL_law_488 : decode cL_law 488 = .ok (.iconst 3, 1) := by decide +kernel
theorem dL_law_489 : decode cL_law 489 = .ok (.iadd, 1) := by decide +kernel
theorem dL_law_490 : decode cL_law 490 = .ok (.iaload, 1) := by decide +kernel
theorem dL_law_491 : decode cL_law 491 = .ok (.aload_n 0, 1) := by decide +kernel
theorem dL_law_492 : decode cL_law 492 = .ok (.iload_n 3, 1) := by decide +kernel
theorem dL_law_493 : decode cL_law 493 = .ok (.iconst 4, 1) := by decide +kernel
theorem dL_law_494 : decode cL_law 494 = .ok (.iadd, 1) := by decide +kernel
theorem dL_law_495 : decode cL_law 495 = .ok (.iaload, 1) := by decide +kernel
theorem dL_law_496 : decode cL_law 496 = .ok (.aload_n 0, 1) := by decide +kernel
theorem dL_law_497 : decode cL_law 497 = .ok (.iload_n 3, 1) := by decide +kernel
theorem dL_law_498 : decode cL_law 498 = .ok (.iconst 5, 1) := by decide +kernel
theorem dL_law_499 : decode cL_law 499 = .ok (.iadd, 1) := by decide +kernel
theorem dL_law_500 : decode cL_law 500 = .ok (.iaload, 1) := by decide +kernel
theorem dL_law_501 : decode cL_law 501 = .ok (.invokevirtual 52, 3) := by decide +kernel
theorem dL_law_504 : decode cL_law 504 = .ok (.aload_n 2, 1) := by decide +kernel
theorem dL_law_505 : decode cL_law 505 = .ok (.aload_n 0, 1) := by decide +kernel
theorem dL_law_506 : decode cL_law 506 = .ok (.iload_n 3, 1) := by decide +kernel
theorem dL_law_507 : decode cL_law 507 = .ok (.iconst 1, 1) := by decide +kernel
theorem dL_law_508 : decode cL_law 508 = .ok (.iadd, 1) := by decide +kernel
theorem dL_law_509 : decode cL_law 509 = .ok (.iaload, 1) := by decide +kernel
theorem dL_law_510 : decode cL_law 510 = .ok (.aload_n 0, 1) := by decide +kernel
theorem dL_law_511 : decode cL_law 511 = .ok (.iload_n 3, 1) := by decide +kernel
theorem dL_law_512 : decode cL_law 512 = .ok (.iconst 2, 1) := by decide +kernel
theorem dL_law_513 : decode cL_law 513 = .ok (.iadd, 1) := by decide +kernel
theorem dL_law_514 : decode cL_law 514 = .ok (.iaload, 1) := by decide +kernel
theorem dL_law_515 : decode cL_law 515 = .ok (.aload_n 0, 1) := by decide +kernel
theorem dL_law_516 : decode cL_law 516 = .ok (.iload_n 3, 1) := by decide +kernel
theorem dL_law_517 : decode cL_law 517 = .ok (.iconst 3, 1) := by decide +kernel
theorem dL_law_518 : decode cL_law 518 = .ok (.iadd, 1) := by decide +kernel
theorem dL_law_519 : decode cL_law 519 = .ok (.iaload, 1) := by decide +kernel
theorem dL_law_520 : decode cL_law 520 = .ok (.aload_n 0, 1) := by decide +kernel
theorem dL_law_521 : decode cL_law 521 = .ok (.iload_n 3, 1) := by decide +kernel
theorem dL_law_522 : decode cL_law 522 = .ok (.iconst 4, 1) := by decide +kernel
theorem dL_law_523 : decode cL_law 523 = .ok (.iadd, 1) := by decide +kernel
theorem dL_law_524 : decode cL_law 524 = .ok (.iaload, 1) := by decide +kernel
theorem dL_law_525 : decode cL_law 525 = .ok (.aload_n 0, 1) := by decide +kernel
theorem dL_law_526 : decode cL_law 526 = .ok (.iload_n 3, 1) := by decide +kernel
theorem dL_law_527 : decode cL_law 527 = .ok (.iconst 5, 1) := by decide +kernel
theorem dL_law_528 : decode cL_law 528 = .ok (.iadd, 1) := by decide +kernel
theorem dL_law_529 : decode cL_law 529 = .ok (.iaload, 1) := by decide +kernel
theorem dL_law_530 : decode cL_law 530 = .ok (.invokevirtual 55, 3) := by decide +kernel
theorem dL_law_533 : decode cL_law 533 = .ok (.if_icmp .eq 166, 3) := by decide +kernel
theorem dL_law_536 : decode cL_law 536 = .ok (.iconst 0, 1) := by decide +kernel
theorem dL_law_537 : decode cL_law 537 = .ok (.ireturn, 1) := by decide +kernel
theorem dL_law_538 : decode cL_law 538 = .ok (.aload_n 1, 1) := by decide +kernel
theorem dL_law_539 : decode cL_law 539 = .ok (.aload_n 0, 1) := by decide +kernel
theorem dL_law_540 : decode cL_law 540 = .ok (.iload_n 3, 1) := by decide +kernel
theorem dL_law_541 : decode cL_law 541 = .ok (.iconst 1, 1) := by decide +kernel
theorem dL_law_542 : decode cL_law 542 = .ok (.iadd, 1) := by decide +kernel
theorem dL_law_543 : decode cL_law 543 = .ok (.iaload, 1) := by decide +kernel
theorem dL_law_544 : decode cL_law 544 = .ok (.aload_n 0, 1) := by decide +kernel
theorem dL_law_545 : decode cL_law 545 = .ok (.iload_n 3, 1) := by decide +kernel
theorem dL_law_546 : decode cL_law 546 = .ok (.iconst 2, 1) := by decide +kernel
theorem dL_law_547 : decode cL_law 547 = .ok (.iadd, 1) := by decide +kernel
theorem dL_law_548 : decode cL_law 548 = .ok (.iaload, 1) := by decide +kernel
theorem dL_law_549 : decode cL_law 549 = .ok (.ifCond .eq 7, 3) := by decide +kernel
theorem dL_law_552 : decode cL_law 552 = .ok (.iconst 1, 1) := by decide +kernel
theorem dL_law_553 : decode cL_law 553 = .ok (.goto 4, 3) := by decide +kernel
theorem dL_law_556 : decode cL_law 556 = .ok (.iconst 0, 1) := by decide +kernel
theorem dL_law_557 : decode cL_law 557 = .ok (.invokevirtual 56, 3) := by decide +kernel
theorem dL_law_560 : decode cL_law 560 = .ok (.aload_n 2, 1) := by decide +kernel
theorem dL_law_561 : decode cL_law 561 = .ok (.aload_n 0, 1) := by decide +kernel
theorem dL_law_562 : decode cL_law 562 = .ok (.iload_n 3, 1) := by decide +kernel
theorem dL_law_563 : decode cL_law 563 = .ok (.iconst 1, 1) := by decide +kernel
theorem dL_law_564 : decode cL_law 564 = .ok (.iadd, 1) := by decide +kernel
theorem dL_law_565 : decode cL_law 565 = .ok (.iaload, 1) := by decide +kernel
theorem dL_law_566 : decode cL_law 566 = .ok (.aload_n 0, 1) := by decide +kernel
theorem dL_law_567 : decode cL_law 567 = .ok (.iload_n 3, 1) := by decide +kernel
theorem dL_law_568 : decode cL_law 568 = .ok (.iconst 2, 1) := by decide +kernel
theorem dL_law_569 : decode cL_law 569 = .ok (.iadd, 1) := by decide +kernel
theorem dL_law_570 : decode cL_law 570 = .ok (.iaload, 1) := by decide +kernel
theorem dL_law_571 : decode cL_law 571 = .ok (.ifCond .eq 7, 3) := by decide +kernel
theorem dL_law_574 : decode cL_law 574 = .ok (.iconst 1, 1) := by decide +kernel
theorem dL_law_575 : decode cL_law 575 = .ok (.goto 4, 3) := by decide +kernel
theorem dL_law_578 : decode cL_law 578 = .ok (.iconst 0, 1) := by decide +kernel
theorem dL_law_579 : decode cL_law 579 = .ok (.invokevirtual 60, 3) := by decide +kernel
theorem dL_law_582 : decode cL_law 582 = .ok (.if_icmp .eq 117, 3) := by decide +kernel
theorem dL_law_585 : decode cL_law 585 = .ok (.iconst 0, 1) := by decide +kernel
theorem dL_law_586 : decode cL_law 586 = .ok (.ireturn, 1) := by decide +kernel
theorem dL_law_587 : decode cL_law 587 = .ok (.aload_n 1, 1) := by decide +kernel
theorem dL_law_588 : decode cL_law 588 = .ok (.aload_n 0, 1) := by decide +kernel
theorem dL_law_589 : decode cL_law 589 = .ok (.iload_n 3, 1) := by decide +kernel
theorem dL_law_590 : decode cL_law 590 = .ok (.iconst 1, 1) := by decide +kernel
theorem dL_law_591 : decode cL_law 591 = .ok (.iadd, 1) := by decide +kernel
theorem dL_law_592 : decode cL_law 592 = .ok (.iaload, 1) := by decide +kernel
theorem dL_law_593 : decode cL_law 593 = .ok (.aload_n 0, 1) := by decide +kernel
theorem dL_law_594 : decode cL_law 594 = .ok (.iload_n 3, 1) := by decide +kernel
theorem dL_law_595 : decode cL_law 595 = .ok (.iconst 2, 1) := by decide +kernel
theorem dL_law_596 : decode cL_law 596 = .ok (.iadd, 1) := by decide +kernel
theorem dL_law_597 : decode cL_law 597 = .ok (.iaload, 1) := by decide +kernel
theorem dL_law_598 : decode cL_law 598 = .ok (.invokevirtual 61, 3) := by decide +kernel
theorem dL_law_601 : decode cL_law 601 = .ok (.aload_n 2, 1) := by decide +kernel
theorem dL_law_602 : decode cL_law 602 = .ok (.aload_n 0, 1) := by decide +kernel
theorem dL_law_603 : decode cL_law 603 = .ok (.iload_n 3, 1) := by decide +kernel
theorem dL_law_604 : decode cL_law 604 = .ok (.iconst 1, 1) := by decide +kernel
theorem dL_law_605 : decode cL_law 605 = .ok (.iadd, 1) := by decide +kernel
theorem dL_law_606 : decode cL_law 606 = .ok (.iaload, 1) := by decide +kernel
theorem dL_law_607 : decode cL_law 607 = .ok (.aload_n 0, 1) := by decide +kernel
theorem dL_law_608 : decode cL_law 608 = .ok (.iload_n 3, 1) := by decide +kernel
theorem dL_law_609 : decode cL_law 609 = .ok (.iconst 2, 1) := by decide +kernel
theorem dL_law_610 : decode cL_law 610 = .ok (.iadd, 1) := by decide +kernel
theorem dL_law_611 : decode cL_law 611 = .ok (.iaload, 1) := by decide +kernel
theorem dL_law_612 : decode cL_law 612 = .ok (.invokevirtual 64, 3) := by decide +kernel
theorem dL_law_615 : decode cL_law 615 = .ok (.if_icmp .eq 84, 3) := by decide +kernel
theorem dL_law_618 : decode cL_law 618 = .ok (.iconst 0, 1) := by decide +kernel
theorem dL_law_619 : decode cL_law 619 = .ok (.ireturn, 1) := by decide +kernel
theorem dL_law_620 : decode cL_law 620 = .ok (.aload_n 1, 1) := by decide +kernel
theorem dL_law_621 : decode cL_law 621 = .ok (.aload_n 0, 1) := by decide +kernel
theorem dL_law_622 : decode cL_law 622 = .ok (.iload_n 3, 1) := by decide +kernel
theorem dL_law_623 : decode cL_law 623 = .ok (.iconst 1, 1) := by decide +kernel
theorem dL_law_624 : decode cL_law 624 = .ok (.iadd, 1) := by decide +kernel
theorem dL_law_625 : decode cL_law 625 = .ok (.iaload, 1) := by decide +kernel
theorem dL_law_626 : decode cL_law 626 = .ok (.invokevirtual 65, 3) := by decide +kernel
theorem dL_law_629 : decode cL_law 629 = .ok (.aload_n 2, 1) := by decide +kernel
theorem dL_law_630 : decode cL_law 630 = .ok (.aload_n 0, 1) := by decide +kernel
theorem dL_law_631 : decode cL_law 631 = .ok (.iload_n 3, 1) := by decide +kernel
theorem dL_law_632 : decode cL_law 632 = .ok (.iconst 1, 1) := by decide +kernel
theorem dL_law_633 : decode cL_law 633 = .ok (.iadd, 1) := by decide +kernel
theorem dL_law_634 : decode cL_law 634 = .ok (.iaload, 1) := by decide +kernel
theorem dL_law_635 : decode cL_law 635 = .ok (.invokevirtual 69, 3) := by decide +kernel
theorem dL_law_638 : decode cL_law 638 = .ok (.if_icmp .eq 61, 3) := by decide +kernel
theorem dL_law_641 : decode cL_law 641 = .ok (.iconst 0, 1) := by decide +kernel
theorem dL_law_642 : decode cL_law 642 = .ok (.ireturn, 1) := by decide +kernel
theorem dL_law_643 : decode cL_law 643 = .ok (.aload_n 1, 1) := by decide +kernel
theorem dL_law_644 : decode cL_law 644 = .ok (.aload_n 0, 1) := by decide +kernel
theorem dL_law_645 : decode cL_law 645 = .ok (.iload_n 3, 1) := by decide +kernel
theorem dL_law_646 : decode cL_law 646 = .ok (.iconst 1, 1) := by decide +kernel
theorem dL_law_647 : decode cL_law 647 = .ok (.iadd, 1) := by decide +kernel
theorem dL_law_648 : decode cL_law 648 = .ok (.iaload, 1) := by decide +kernel
theorem dL_law_649 : decode cL_law 649 = .ok (.aload_n 0, 1) := by decide +kernel
theorem dL_law_650 : decode cL_law 650 = .ok (.iload_n 3, 1) := by decide +kernel
theorem dL_law_651 : decode cL_law 651 = .ok (.iconst 2, 1) := by decide +kernel
theorem dL_law_652 : decode cL_law 652 = .ok (.iadd, 1) := by decide +kernel
theorem dL_law_653 : decode cL_law 653 = .ok (.iaload, 1) := by decide +kernel
theorem dL_law_654 : decode cL_law 654 = .ok (.invokevirtual 70, 3) := by decide +kernel
theorem dL_law_657 : decode cL_law 657 = .ok (.aload_n 2, 1) := by decide +kernel
theorem dL_law_658 : decode cL_law 658 = .ok (.aload_n 0, 1) := by decide +kernel
theorem dL_law_659 : decode cL_law 659 = .ok (.iload_n 3, 1) := by decide +kernel
theorem dL_law_660 : decode cL_law 660 = .ok (.iconst 1, 1) := by decide +kernel
theorem dL_law_661 : decode cL_law 661 = .ok (.iadd, 1) := by decide +kernel
theorem dL_law_662 : decode cL_law 662 = .ok (.iaload, 1) := by decide +kernel
theorem dL_law_663 : decode cL_law 663 = .ok (.aload_n 0, 1) := by decide +kernel
theorem dL_law_664 : decode cL_law 664 = .ok (.iload_n 3, 1) := by decide +kernel
theorem dL_law_665 : decode cL_law 665 = .ok (.iconst 2, 1) := by decide +kernel
theorem dL_law_666 : decode cL_law 666 = .ok (.iadd, 1) := by decide +kernel
theorem dL_law_667 : decode cL_law 667 = .ok (.iaload, 1) := by decide +kernel
theorem dL_law_668 : decode cL_law 668 = .ok (.invokevirtual 73, 3) := by decide +kernel
theorem dL_law_671 : decode cL_law 671 = .ok (.if_icmp .eq 28, 3) := by decide +kernel
theorem dL_law_674 : decode cL_law 674 = .ok (.iconst 0, 1) := by decide +kernel
theorem dL_law_675 : decode cL_law 675 = .ok (.ireturn, 1) := by decide +kernel
theorem dL_law_676 : decode cL_law 676 = .ok (.aload_n 1, 1) := by decide +kernel
theorem dL_law_677 : decode cL_law 677 = .ok (.aload_n 0, 1) := by decide +kernel
theorem dL_law_678 : decode cL_law 678 = .ok (.iload_n 3, 1) := by decide +kernel
theorem dL_law_679 : decode cL_law 679 = .ok (.iconst 1, 1) := by decide +kernel
theorem dL_law_680 : decode cL_law 680 = .ok (.iadd, 1) := by decide +kernel
theorem dL_law_681 : decode cL_law 681 = .ok (.iaload, 1) := by decide +kernel
theorem dL_law_682 : decode cL_law 682 = .ok (.invokevirtual 74, 3) := by decide +kernel
theorem dL_law_685 : decode cL_law 685 = .ok (.aload_n 2, 1) := by decide +kernel
theorem dL_law_686 : decode cL_law 686 = .ok (.aload_n 0, 1) := by decide +kernel
theorem dL_law_687 : decode cL_law 687 = .ok (.iload_n 3, 1) := by decide +kernel
theorem dL_law_688 : decode cL_law 688 = .ok (.iconst 1, 1) := by decide +kernel
theorem dL_law_689 : decode cL_law 689 = .ok (.iadd, 1) := by decide +kernel
theorem dL_law_690 : decode cL_law 690 = .ok (.iaload, 1) := by decide +kernel
theorem dL_law_691 : decode cL_law 691 = .ok (.invokevirtual 77, 3) := by decide +kernel
theorem dL_law_694 : decode cL_law 694 = .ok (.if_icmp .eq 5, 3) := by decide +kernel
theorem dL_law_697 : decode cL_law 697 = .ok (.iconst 0, 1) := by decide +kernel
theorem dL_law_698 : decode cL_law 698 = .ok (.ireturn, 1) := by decide +kernel
theorem dL_law_699 : decode cL_law 699 = .ok (.iinc 3 6, 3) := by decide +kernel
theorem dL_law_702 : decode cL_law 702 = .ok (.goto (-684), 3) := by decide +kernel
theorem dL_law_705 : decode cL_law 705 = .ok (.iconst 1, 1) := by decide +kernel
theorem dL_law_706 : decode cL_law 706 = .ok (.ireturn, 1) := by decide +kernel
end
section
/-! The state: registers by row and place; what the hall's and the model's cells hold of it. -/
abbrev sg : Type := Nat → Nat → Int32
abbrev ix (i : Int32) : Nat := i.toNatClampNeg
def s2 (r : sg) (f i : Nat) (v : Int32) : sg := fun f' => if f' = f then upd (r f) i v else r f'
theorem s2_a (r : sg) (f i : Nat) (v : Int32) (f' i' : Nat) : s2 r f i v f' i' = if f' = f ∧ i' = i then v else r f' i' := by
  by_cases h : f' = f
  · subst h
    by_cases h2 : i' = i <;> simp [s2, upd, h2]
  · simp [s2, h]
theorem s2_r (r : sg) (f i : Nat) (v : Int32) : s2 r f i v f = upd (r f) i v := by simp [s2]
theorem s2_s (r : sg) (f i : Nat) (v : Int32) : s2 r f i v f i = v := by simp [s2_a]
theorem s2_f (r : sg) {f f' : Nat} (i : Nat) (v : Int32) (h : f' ≠ f) : s2 r f i v f' = r f' := by simp [s2, h]
theorem s2_i (r : sg) {i i' : Nat} (f : Nat) (v : Int32) (h : i' ≠ i) : s2 r f i v f i' = r f i' := by simp [s2_a, h]
def nm (r : sg) : Nat := ix (r 17 0)
def passB (a b : Int32) : Bool := a == b || ((b == 0 && (a == 1 || a == 2)) || (b == 3 && a == 2))
def figB (b d : Int32) : Bool := !decide (b < 4) && d == 1
def fitB (r : sg) (i : Nat) (b d : Int32) : Bool := r 1 i == d && passB (r 0 i) b
def nsetN (r : sg) : Nat → Int32
  | 0 => 0
  | k + 1 => nsetN r k + bI (r 5 k != 0)
def tal (z : Bool) (r : sg) (j : Nat) : Int32 := if z then (if j = 6 then -1 else 0) else r 17 j
abbrev hfs (xa xk : Nat) (z : Bool) (r : sg) : List Value := [.ref xa, .ref xk, .int (r 17 0), .int (nsetN r 8), .int (r 17 1), .int (tal z r 2), .int (tal z r 3), .int (tal z r 4), .int (tal z r 5), .int (tal z r 6)]
abbrev mfl (r : sg) (pa : Nat → Nat) (i : Nat) : List Value := [.int (nI i), .int (r 0 i), .int (r 1 i), .int (bI (figB (r 0 i) (r 1 i))), .ref (pa i), .int (r 2 i)]
abbrev kfl (r : sg) (k : Nat) : List Value := [.int (nI k), .int (r 8 k), .int (r 9 k), .int (r 10 k), .int (r 11 k), .int (r 12 k), .int (r 13 k), .int (r 14 k), .int (r 7 k), .int (r 6 k), .int (r 15 k), .int (r 16 k)]
def mrw (r : sg) (ma : Nat → Nat) : Nat → Option Nat := fun i => if i < nm r then some (ma i) else none
def krw (r : sg) (ka : Nat → Nat) : Nat → Option Nat := fun k => if r 5 k = 0 then none else some (ka k)
/-- the hall's cells: the object x, its two rows, each message with its places, each counter -/
def HR (E : gE) (x xa xk : Nat) (ma pa ka : Nat → Nat) (z : Bool) (r : sg) (g : gm) : Prop :=
  g x = some (.inr (2, hfs xa xk z r)) ∧ g xa = some (.inl (E.2 2, 60, .inr (.inr (.inr (.inr (mrw r ma)))))) ∧ g xk = some (.inl (E.2 3, 8, .inr (.inr (.inr (.inr (krw r ka)))))) ∧
  (∀ i, i < nm r → g (ma i) = some (.inr (1, mfl r pa i)) ∧ (∃ f : Nat → Int32, g (pa i) = some (.inl (E.2 0, ix (r 3 i), .inl f)) ∧ ∀ j, j < ix (r 3 i) → f j = r 4 (8 * i + j)) ∧ ¬ r 3 i < 0 ∧ ix (r 3 i) ≤ 8) ∧
  (∀ k, k < 8 → r 5 k ≠ 0 → g (ka k) = some (.inr (0, kfl r k))) ∧ (∀ i j, i < nm r → j < nm r → pa i = pa j → i = j) ∧ nm r ≤ 60
def kd : va_E → Nat
  | .inl (_, _, .inl _) => 10
  | .inl (_, n, .inr _) => 20 + n
  | .inr (c, _) => c
theorem ne_kd {g : gm} {a b : Nat} {ea eb : va_E} (ha : g a = some ea) (hb : g b = some eb) (h : kd ea ≠ kd eb) : a ≠ b := fun e => by
  subst e
  rw [ha] at hb
  cases hb
  exact h rfl
theorem mrw_c {r r' : sg} {ma : Nat → Nat} (h : nm r' = nm r) : mrw r' ma = mrw r ma := by
  funext i
  simp [mrw, h]
theorem krw_c {r r' : sg} {ka : Nat → Nat} (h : r' 5 = r 5) : krw r' ka = krw r ka := by
  funext i
  simp [krw, h]
section HRL
variable {E : gE} {x xa xk : Nat} {ma pa ka : Nat → Nat} {z : Bool} {r : sg} {g : gm}
theorem HR.ma_inj (h : HR E x xa xk ma pa ka z r g) {i j : Nat} (hi : i < nm r) (hj : j < nm r) (e : ma i = ma j) : i = j := by
  have h1 := (h.2.2.2.1 i hi).1
  have h2 := (h.2.2.2.1 j hj).1
  rw [e, h2] at h1
  have h3 := h.2.2.2.2.2.2
  have h4 : (nI j) = (nI i) := by simpa using congrArg (fun o : Option va_E => match o with | some (.inr (_, .int v :: _)) => v | _ => 0) h1
  exact ((nI_eq (by omega) (by omega)).mp h4).symm
theorem HR.ka_inj (h : HR E x xa xk ma pa ka z r g) {i j : Nat} (hi : i < 8) (hj : j < 8) (si : r 5 i ≠ 0) (sj : r 5 j ≠ 0) (e : ka i = ka j) : i = j := by
  have h1 := h.2.2.2.2.1 i hi si
  have h2 := h.2.2.2.2.1 j hj sj
  rw [e, h2] at h1
  have h4 : (nI j) = (nI i) := by simpa using congrArg (fun o : Option va_E => match o with | some (.inr (_, .int v :: _)) => v | _ => 0) h1
  exact ((nI_eq (by omega) (by omega)).mp h4).symm
theorem nset_congr {r r' : sg} (h : r' 5 = r 5) (n : Nat) : nsetN r' n = nsetN r n := by
  induction n with
  | zero => rfl
  | succ n ih => simp only [nsetN, ih, h]
/-- the object's own fields change -/
theorem HR.obj (h : HR E x xa xk ma pa ka z r g) {z' : Bool} {r' : sg} (h0 : ∀ f, f < 17 → r' f = r f) (h1 : r' 17 0 = r 17 0) : HR E x xa xk ma pa ka z' r' (gu g x (.inr (2, hfs xa xk z' r'))) := by
  obtain ⟨a1, a2, a3, a4, a5, a6, a7⟩ := h
  have en : nm r' = nm r := by simp [nm, h1]
  refine ⟨gu_s _ _ _, ?_, ?_, fun i hi => ?_, fun k hk hs => ?_, fun i j hi hj => a6 i j (en ▸ hi) (en ▸ hj), en ▸ a7⟩
  · rw [gu_n _ _ (ne_kd a2 a1 (by simp [kd])), a2]
    rw [mrw_c en]
  · rw [gu_n _ _ (ne_kd a3 a1 (by simp [kd])), a3]
    rw [krw_c (h0 5 (by decide))]
  · rw [en] at hi
    obtain ⟨b1, ⟨f, b2, b3⟩, b4, b5⟩ := a4 i hi
    rw [gu_n _ _ (ne_kd b1 a1 (by simp [kd])), gu_n _ _ (ne_kd b2 a1 (by simp [kd]))]
    simp only [mfl, h0 0 (by decide), h0 1 (by decide), h0 2 (by decide), h0 3 (by decide), h0 4 (by decide)]
    exact ⟨b1, ⟨f, b2, b3⟩, b4, b5⟩
  · rw [h0 5 (by decide)] at hs
    have b := a5 k hk hs
    rw [gu_n _ _ (ne_kd b a1 (by simp [kd]))]
    simp only [kfl, h0 6 (by decide), h0 7 (by decide), h0 8 (by decide), h0 9 (by decide), h0 10 (by decide), h0 11 (by decide), h0 12 (by decide), h0 13 (by decide), h0 14 (by decide), h0 15 (by decide), h0 16 (by decide)]
    exact b
/-- a stamp changes -/
theorem HR.msg (h : HR E x xa xk ma pa ka z r g) {i : Nat} (hi : i < nm r) (v : Int32) : HR E x xa xk ma pa ka z (s2 r 2 i v) (gu g (ma i) (.inr (1, mfl (s2 r 2 i v) pa i))) := by
  have hinj := @HR.ma_inj E x xa xk ma pa ka z r g h
  obtain ⟨a1, a2, a3, a4, a5, a6, a7⟩ := h
  have en : nm (s2 r 2 i v) = nm r := rfl
  have ei := (a4 i hi).1
  refine ⟨?_, ?_, ?_, fun j hj => ?_, fun k hk hs => ?_, a6, a7⟩
  · rw [gu_n _ _ (ne_kd a1 ei (by simp [kd])), a1]
    rfl
  · rw [gu_n _ _ (ne_kd a2 ei (by simp [kd])), a2]
    rfl
  · rw [gu_n _ _ (ne_kd a3 ei (by simp [kd])), a3]
    rfl
  · obtain ⟨b1, ⟨f, b2, b3⟩, b4, b5⟩ := a4 j hj
    refine ⟨?_, ⟨f, ?_, b3⟩, b4, b5⟩
    · by_cases hji : j = i
      · subst hji
        exact gu_s _ _ _
      · rw [gu_n _ _ (fun e => hji (hinj hj hi e)), b1]
        simp [s2_a, hji]
    · rw [gu_n _ _ (ne_kd b2 ei (by simp [kd])), b2]
      rfl
  · have b := a5 k hk hs
    rw [gu_n _ _ (ne_kd b ei (by simp [kd])), b]
    rfl
/-- a counter changes -/
theorem HR.ctr (h : HR E x xa xk ma pa ka z r g) {k : Nat} (hk : k < 8) (hs : r 5 k ≠ 0) {r' : sg} (h0 : ∀ f, f < 6 → r' f = r f) (h1 : r' 17 = r 17) (h2 : ∀ k', k' ≠ k → kfl r' k' = kfl r k') : HR E x xa xk ma pa ka z r' (gu g (ka k) (.inr (0, kfl r' k))) := by
  have hinj := @HR.ka_inj E x xa xk ma pa ka z r g h
  obtain ⟨a1, a2, a3, a4, a5, a6, a7⟩ := h
  have en : nm r' = nm r := by simp [nm, h1]
  have ei := a5 k hk hs
  have e5 : r' 5 = r 5 := h0 5 (by decide)
  refine ⟨?_, ?_, ?_, fun j hj => ?_, fun k' hk' hs' => ?_, fun i j hi hj => a6 i j (en ▸ hi) (en ▸ hj), en ▸ a7⟩
  · rw [gu_n _ _ (ne_kd a1 ei (by simp [kd])), a1]
    simp [hfs, tal, h1, nset_congr e5]
  · rw [gu_n _ _ (ne_kd a2 ei (by simp [kd])), a2]
    rw [mrw_c en]
  · rw [gu_n _ _ (ne_kd a3 ei (by simp [kd])), a3]
    rw [krw_c e5]
  · rw [en] at hj
    obtain ⟨b1, ⟨f, b2, b3⟩, b4, b5⟩ := a4 j hj
    rw [gu_n _ _ (ne_kd b1 ei (by simp [kd])), gu_n _ _ (ne_kd b2 ei (by simp [kd]))]
    simp only [mfl, h0 0 (by decide), h0 1 (by decide), h0 2 (by decide), h0 3 (by decide), h0 4 (by decide)]
    exact ⟨b1, ⟨f, b2, b3⟩, b4, b5⟩
  · rw [e5] at hs'
    by_cases hkk : k' = k
    · subst hkk
      exact gu_s _ _ _
    · rw [gu_n _ _ (fun e => hkk (hinj hk' hk hs' hs e)), h2 k' hkk]
      exact a5 k' hk' hs'
/-- a message's places change -/
theorem HR.row (h : HR E x xa xk ma pa ka z r g) {i : Nat} (hi : i < nm r) {r' : sg} {f' : Nat → Int32} (h0 : ∀ f, f ≠ 4 → r' f = r f) (h1 : ∀ j, j < ix (r 3 i) → f' j = r' 4 (8 * i + j)) (h2 : ∀ i' j, i' ≠ i → j < 8 → r' 4 (8 * i' + j) = r 4 (8 * i' + j)) : HR E x xa xk ma pa ka z r' (gu g (pa i) (.inl (E.2 0, ix (r 3 i), .inl f'))) := by
  obtain ⟨a1, a2, a3, a4, a5, a6, a7⟩ := h
  have e17 := h0 17 (by decide)
  have en : nm r' = nm r := by simp [nm, e17]
  obtain ⟨-, ⟨f0, ei, -⟩, -, -⟩ := a4 i hi
  refine ⟨?_, ?_, ?_, fun j hj => ?_, fun k' hk' hs' => ?_, fun i j hi hj => a6 i j (en ▸ hi) (en ▸ hj), en ▸ a7⟩
  · rw [gu_n _ _ (ne_kd a1 ei (by simp [kd])), a1]
    simp [hfs, tal, e17, nset_congr (h0 5 (by decide))]
  · rw [gu_n _ _ (ne_kd a2 ei (by simp [kd])), a2]
    rw [mrw_c en]
  · rw [gu_n _ _ (ne_kd a3 ei (by simp [kd])), a3]
    rw [krw_c (h0 5 (by decide))]
  · rw [en] at hj
    obtain ⟨b1, ⟨f, b2, b3⟩, b4, b5⟩ := a4 j hj
    rw [gu_n _ _ (ne_kd b1 ei (by simp [kd]))]
    simp only [mfl, h0 0 (by decide), h0 1 (by decide), h0 2 (by decide), h0 3 (by decide)]
    refine ⟨b1, ?_, b4, b5⟩
    by_cases hji : j = i
    · subst hji
      exact ⟨f', gu_s _ _ _, h1⟩
    · refine ⟨f, ?_, fun q hq => ?_⟩
      · rw [gu_n _ _ (fun e => hji (a6 j i hj hi e)), b2]
      · rw [h2 j q hji (by omega)]
        exact b3 q hq
  · rw [h0 5 (by decide)] at hs'
    have b := a5 k' hk' hs'
    rw [gu_n _ _ (ne_kd b ei (by simp [kd]))]
    simp only [kfl, h0 6 (by decide), h0 7 (by decide), h0 8 (by decide), h0 9 (by decide), h0 10 (by decide), h0 11 (by decide), h0 12 (by decide), h0 13 (by decide), h0 14 (by decide), h0 15 (by decide), h0 16 (by decide)]
    exact b
end HRL
end
section
section HROW
variable {p : Program} {l : Launch} {e : Env} {R : Room} {s : State} {m : MethodId} {args : Array Value} {below : List Frame} {meth : Method} {c : Code} {H : Heap} {locs : List Loc} {cells slots : Nat} {Q : State → Prop}
variable {cc : ByteArray} {pc : Nat} {ls : Array Slot} {rest : List Value} {E : gE} {A : Nat → Prop} {H0 : Heap} {g : gm} {x xa xk : Nat} {ma pa ka : Nat → Nat} {z : Bool} {r : sg} {own : String} {index : Nat}
theorem h_get (hx : p.tables.exec = Jvm.exec) (hb : c.code = cc) (hts : ∀ w ∈ wsL_law, w.before args s = true) (hown : s.vm.findClass own = some m.cls) (hK : KC E s) (hW : PW E A H0 H locs g) (hR : HR E x xa xk ma pa ka z r g) (k : Nat) (hk : k < 10) (hlink : Cond.fieldLink own index (TX2 k).1 (TX2 k).2.1 (TX2 k).2.2.1 ∈ wsL_law) {v : Value} (hv : (hfs xa xk z r)[k]? = some v) (hdg : decode cc pc = .ok (.getfield index, 3))
    (kk : W p l e R s m args below meth c H locs cells slots Q (F0 m (pc + 3) ls (v :: rest))) : W p l e R s m args below meth c H locs cells slots Q (F0 m pc ls (.ref x :: rest)) :=
  g_get hx hb hts inlX2 rfl hown hK hW hR.1 k hk hlink hv hdg kk
theorem hm_get {i : Nat} (hx : p.tables.exec = Jvm.exec) (hb : c.code = cc) (hts : ∀ w ∈ wsL_law, w.before args s = true) (hown : s.vm.findClass own = some m.cls) (hK : KC E s) (hW : PW E A H0 H locs g) (hR : HR E x xa xk ma pa ka z r g) (hi : i < nm r) (k : Nat) (hk : k < 6) (hlink : Cond.fieldLink own index (TX1 k).1 (TX1 k).2.1 (TX1 k).2.2.1 ∈ wsL_law) {v : Value} (hv : (mfl r pa i)[k]? = some v) (hdg : decode cc pc = .ok (.getfield index, 3))
    (kk : W p l e R s m args below meth c H locs cells slots Q (F0 m (pc + 3) ls (v :: rest))) : W p l e R s m args below meth c H locs cells slots Q (F0 m pc ls (.ref (ma i) :: rest)) :=
  g_get hx hb hts inlX1 rfl hown hK hW (hR.2.2.2.1 i hi).1 k hk hlink hv hdg kk
theorem hk_get {i : Nat} (hx : p.tables.exec = Jvm.exec) (hb : c.code = cc) (hts : ∀ w ∈ wsL_law, w.before args s = true) (hown : s.vm.findClass own = some m.cls) (hK : KC E s) (hW : PW E A H0 H locs g) (hR : HR E x xa xk ma pa ka z r g) (hi : i < 8) (hs : r 5 i ≠ 0) (k : Nat) (hk : k < 12) (hlink : Cond.fieldLink own index (TX0 k).1 (TX0 k).2.1 (TX0 k).2.2.1 ∈ wsL_law) {v : Value} (hv : (kfl r i)[k]? = some v) (hdg : decode cc pc = .ok (.getfield index, 3))
    (kk : W p l e R s m args below meth c H locs cells slots Q (F0 m (pc + 3) ls (v :: rest))) : W p l e R s m args below meth c H locs cells slots Q (F0 m pc ls (.ref (ka i) :: rest)) :=
  g_get hx hb hts inlX0 rfl hown hK hW (hR.2.2.2.2.1 i hi hs) k hk hlink hv hdg kk
/-- the object's tallies -/
theorem h_tput (j : Nat) {v : Int32} (hx : p.tables.exec = Jvm.exec) (hb : c.code = cc) (hts : ∀ w ∈ wsL_law, w.before args s = true) (hown : s.vm.findClass own = some m.cls) (hK : KC E s) (hW : PW E A H0 H locs g) (hR : HR E x xa xk ma pa ka false r g) (k : Nat) (hk : k < 10) (hlink : Cond.fieldLink own index (TX2 k).1 (TX2 k).2.1 (TX2 k).2.2.1 ∈ wsL_law) (hfin : (TX2 k).2.2.2 = false) (hty : tyX2 k = .int) (hj : j ≠ 0) (hset : (hfs xa xk false r).set k (.int v) = hfs xa xk false (s2 r 17 j v)) (hdg : decode cc pc = .ok (.putfield index, 3))
    (kk : ∀ (H1 : Heap) (locs1 : List Loc) (g1 : gm), PW E A H0 H1 locs1 g1 → HR E x xa xk ma pa ka false (s2 r 17 j v) g1 → W p l e R s m args below meth c H1 locs1 cells slots Q (F0 m (pc + 3) ls rest)) : W p l e R s m args below meth c H locs cells slots Q (F0 m pc ls (.int v :: .ref x :: rest)) := by
  refine g_put hx hb hts inlX2 rfl tyX2 tyX2_ok nmX2 hown hK hW hR.1 k hk hlink hfin (by rw [hty]; rfl) (by rw [hty]; rfl) hk hdg (fun H1 locs1 hW1 => ?_)
  rw [hset] at hW1
  exact kk H1 locs1 _ hW1 (hR.obj (fun f hf => s2_f _ _ _ (by omega)) (by rw [s2_a]; simp [Ne.symm hj]))
theorem hm_put {i : Nat} {v : Int32} (hx : p.tables.exec = Jvm.exec) (hb : c.code = cc) (hts : ∀ w ∈ wsL_law, w.before args s = true) (hown : s.vm.findClass own = some m.cls) (hK : KC E s) (hW : PW E A H0 H locs g) (hR : HR E x xa xk ma pa ka z r g) (hi : i < nm r) (hlink : Cond.fieldLink own index (TX1 5).1 (TX1 5).2.1 (TX1 5).2.2.1 ∈ wsL_law) (hdg : decode cc pc = .ok (.putfield index, 3))
    (kk : ∀ (H1 : Heap) (locs1 : List Loc) (g1 : gm), PW E A H0 H1 locs1 g1 → HR E x xa xk ma pa ka z (s2 r 2 i v) g1 → W p l e R s m args below meth c H1 locs1 cells slots Q (F0 m (pc + 3) ls rest)) : W p l e R s m args below meth c H locs cells slots Q (F0 m pc ls (.int v :: .ref (ma i) :: rest)) := by
  refine g_put hx hb hts inlX1 rfl tyX1 tyX1_ok nmX1 hown hK hW (hR.2.2.2.1 i hi).1 5 (by decide) hlink rfl rfl rfl (show 5 < 6 by decide) hdg (fun H1 locs1 hW1 => ?_)
  have e1 : (mfl r pa i).set 5 (.int v) = mfl (s2 r 2 i v) pa i := by simp [s2_a]
  rw [e1] at hW1
  exact kk H1 locs1 _ hW1 (hR.msg hi v)
theorem hk_put (f : Nat) {i : Nat} {v : Int32} (hx : p.tables.exec = Jvm.exec) (hb : c.code = cc) (hts : ∀ w ∈ wsL_law, w.before args s = true) (hown : s.vm.findClass own = some m.cls) (hK : KC E s) (hW : PW E A H0 H locs g) (hR : HR E x xa xk ma pa ka z r g) (hi : i < 8) (hs : r 5 i ≠ 0) (k : Nat) (hk : k < 12) (hlink : Cond.fieldLink own index (TX0 k).1 (TX0 k).2.1 (TX0 k).2.2.1 ∈ wsL_law) (hfin : (TX0 k).2.2.2 = false) (hn : narrow (tyX0 k) (.int v) = .int v) (hfit : fits (tyX0 k) (.int v) = true) (hf : 6 ≤ f ∧ f ≤ 16) (hset : (kfl r i).set k (.int v) = kfl (s2 r f i v) i) (hdg : decode cc pc = .ok (.putfield index, 3))
    (kk : ∀ (H1 : Heap) (locs1 : List Loc) (g1 : gm), PW E A H0 H1 locs1 g1 → HR E x xa xk ma pa ka z (s2 r f i v) g1 → W p l e R s m args below meth c H1 locs1 cells slots Q (F0 m (pc + 3) ls rest)) : W p l e R s m args below meth c H locs cells slots Q (F0 m pc ls (.int v :: .ref (ka i) :: rest)) := by
  refine g_put hx hb hts inlX0 rfl tyX0 tyX0_ok nmX0 hown hK hW (hR.2.2.2.2.1 i hi hs) k hk hlink hfin hn hfit hk hdg (fun H1 locs1 hW1 => ?_)
  rw [hset] at hW1
  exact kk H1 locs1 _ hW1 (hR.ctr hi hs (fun q hq => s2_f _ _ _ (by omega)) (s2_f _ _ _ (by omega)) (fun k' hk' => by simp [s2_a, hk']))
theorem hp_ald {i : Nat} {j : Int32} (hx : p.tables.exec = Jvm.exec) (hb : c.code = cc) (hK : KC E s) (hW : PW E A H0 H locs g) (hR : HR E x xa xk ma pa ka z r g) (hi : i < nm r) (h0 : ¬ j < 0) (h1 : ix j < ix (r 3 i)) (hdg : decode cc pc = .ok (.iaload, 1))
    (kk : W p l e R s m args below meth c H locs cells slots Q (F0 m (pc + 1) ls (.int (r 4 (8 * i + ix j)) :: rest))) : W p l e R s m args below meth c H locs cells slots Q (F0 m pc ls (.int j :: .ref (pa i) :: rest)) := by
  obtain ⟨-, ⟨f, b2, b3⟩, b4, b5⟩ := hR.2.2.2.1 i hi
  refine g_iald hx hb hK hW b2 (fun q => q.elim h0 (fun q => absurd h1 (Nat.not_lt.mpr q))) hdg ?_
  rw [b3 _ h1]
  exact kk
theorem hp_len {i : Nat} (hx : p.tables.exec = Jvm.exec) (hb : c.code = cc) (hK : KC E s) (hW : PW E A H0 H locs g) (hR : HR E x xa xk ma pa ka z r g) (hi : i < nm r) (hdg : decode cc pc = .ok (.arraylength, 1))
    (kk : W p l e R s m args below meth c H locs cells slots Q (F0 m (pc + 1) ls (.int (r 3 i) :: rest))) : W p l e R s m args below meth c H locs cells slots Q (F0 m pc ls (.ref (pa i) :: rest)) := by
  obtain ⟨-, ⟨f, b2, b3⟩, b4, b5⟩ := hR.2.2.2.1 i hi
  refine g_alen hx hb hK hW b2 hdg ?_
  have e1 : nI (ix (r 3 i)) = r 3 i := by
    obtain ⟨q, h1, h2⟩ := nI_of b4
    rw [h2, ix, nI_clamp h1]
  rw [e1]
  exact kk
theorem hp_ast {i : Nat} {j v : Int32} (hx : p.tables.exec = Jvm.exec) (hb : c.code = cc) (hK : KC E s) (hW : PW E A H0 H locs g) (hR : HR E x xa xk ma pa ka z r g) (hi : i < nm r) (h0 : ¬ j < 0) (h1 : ix j < ix (r 3 i)) (hdg : decode cc pc = .ok (.iastore, 1))
    (kk : ∀ (H1 : Heap) (locs1 : List Loc) (g1 : gm), PW E A H0 H1 locs1 g1 → HR E x xa xk ma pa ka z (s2 r 4 (8 * i + ix j) v) g1 → W p l e R s m args below meth c H1 locs1 cells slots Q (F0 m (pc + 1) ls rest)) : W p l e R s m args below meth c H locs cells slots Q (F0 m pc ls (.int v :: .int j :: .ref (pa i) :: rest)) := by
  obtain ⟨-, ⟨f, b2, b3⟩, b4, b5⟩ := hR.2.2.2.1 i hi
  refine g_iast hx hb hK hW b2 (fun q => q.elim h0 (fun q => absurd h1 (Nat.not_lt.mpr q))) hdg (fun H1 locs1 hW1 => ?_)
  refine kk H1 locs1 _ hW1 (hR.row hi (fun q hq => s2_f _ _ _ hq) (fun q hq => ?_) (fun i' q hi' hq => ?_))
  · rw [s2_a]
    by_cases hqj : q = ix j
    · subst hqj
      simp [upd]
    · rw [if_neg (by omega), ← b3 q hq]
      simp [upd, hqj]
  · rw [s2_a, if_neg (by omega)]
theorem nI_ix {j : Int32} (h : ¬ j < 0) : nI (ix j) = j := by
  obtain ⟨q, h1, h2⟩ := nI_of h
  rw [h2, ix, nI_clamp h1]
theorem bI_ne0 {b : Bool} (h : ¬ bI b = 0) : b = true := by cases b <;> first | rfl | exact absurd rfl h
end HROW
end
section
def asI (b : Int32) : Int32 := if b = 0 then 0 else 1
theorem asI_bI (b : Bool) : asI (bI b) = bI b := by cases b <;> rfl
def kindB (b d : Int32) : Bool := !decide (b < 0) && (!decide (5 < b) && (!decide (d < (if b < 4 then 0 else 1)) && !decide (3 < d)))
def failI (a : Int32) : Int32 := if a < -10 then -10 - a else 0
def hasP (r : sg) (i : Nat) (j : Int32) : Bool := !figB (r 0 i) (r 1 i) && (!decide (j < 0) && decide (j < r 3 i))
def hasN (r : sg) (i : Nat) (j : Int32) : Bool := figB (r 0 i) (r 1 i) && (!decide (j < 0) && decide (j < r 3 i))
def lowI (b v : Int32) : Int32 := if b = 4 then v.toInt8.toInt32 else (v.toUInt32 % 65536).toInt32
def canB (r : sg) (k : Nat) (j : Int32) : Bool := if j = 2 ∨ j = 3 ∨ j = 4 then decide (0 < r 11 k) && !figB (r 10 k) (r 11 k) else !decide (j < 0) && !decide (5 < j)
theorem fb_bI (b : Bool) : fits .boolean (.int (bI b)) = true := by cases b <;> decide

set_option maxHeartbeats 4000000 in
set_option maxRecDepth 100000 in
theorem k_X2_asInt (l : Launch) {E : gE} {g : gm} (b : Int32) : CM l yX2_asInt cX2_asInt 1 (some .int) ({ frames := 0, cells := 0, slots := 0, locals := 0 }) E [.int (b)] g (fun vv g' => vv = some (.int (asI b)) ∧ g' = g) := by
  refine CM.of (by decide) (Nat.le_of_ble_eq_true rfl) ?_
  intro p e s m below meth c ls hM hK hW hl
  obtain ⟨hx, hb, hr, hml, hown, hts, hlk, hnm⟩ := hM
  have hown : s.vm.findClass RX2 = some m.cls := hown
  have hl : lv_has ls 1 [(0, .int (b))] := hl
  refine lv_iload_n hx hb dX2_asInt_0 rfl (lv_at hl 0 rfl) ?_
  refine lv_if_eq (tgt := 8) hx hb dX2_asInt_1 (by decide) (fun c_1 => ?_) (fun c_1 => ?_)
  · skip
    refine lv_iconst (v := 0) hx hb dX2_asInt_8 (by decide) ?_
    exact r_int hx hb hr hlk hW (by refine ⟨?_, rfl⟩; first | with_reducible rfl | (simp [bI, asI, c_1]; done) | (simp_all [bI, asI]; done)) (Nat.le_of_ble_eq_true rfl) (Nat.le_of_ble_eq_true rfl) dX2_asInt_9
  · skip
    refine lv_iconst (v := 1) hx hb dX2_asInt_4 (by decide) ?_
    refine lv_goto (tgt := 9) hx hb dX2_asInt_5 (by decide) ?_
    exact r_int hx hb hr hlk hW (by refine ⟨?_, rfl⟩; first | with_reducible rfl | (simp [bI, asI, c_1]; done) | (simp_all [bI, asI]; done)) (Nat.le_of_ble_eq_true rfl) (Nat.le_of_ble_eq_true rfl) dX2_asInt_9

set_option maxHeartbeats 4000000 in
set_option maxRecDepth 100000 in
theorem k_X2_passesFor (l : Launch) {E : gE} {g : gm} (a b : Int32) : CM l yX2_passesFor cX2_passesFor 2 (some .boolean) ({ frames := 0, cells := 0, slots := 0, locals := 0 }) E [.int (a), .int (b)] g (fun vv g' => vv = some (.int (bI (passB a b))) ∧ g' = g) := by
  refine CM.of (by decide) (Nat.le_of_ble_eq_true rfl) ?_
  intro p e s m below meth c ls hM hK hW hl
  obtain ⟨hx, hb, hr, hml, hown, hts, hlk, hnm⟩ := hM
  have hown : s.vm.findClass RX2 = some m.cls := hown
  have hl : lv_has ls 2 [(0, .int (a)), (1, .int (b))] := hl
  refine lv_iload_n hx hb dX2_passesFor_0 rfl (lv_at hl 0 rfl) ?_
  refine lv_iload_n hx hb dX2_passesFor_1 rfl (lv_at hl 1 rfl) ?_
  refine lv_icmp_eq (tgt := 29) hx hb dX2_passesFor_2 (by decide) (fun c_2 => ?_) (fun c_2 => ?_)
  · skip
    refine lv_iconst (v := 1) hx hb dX2_passesFor_29 (by decide) ?_
    refine lv_goto (tgt := 34) hx hb dX2_passesFor_30 (by decide) ?_
    exact r_bool hx hb hr hlk hW rfl (by refine ⟨?_, rfl⟩; first | with_reducible rfl | (simp [bI, passB, c_2]; done) | (simp_all [bI, passB]; done)) (Nat.le_of_ble_eq_true rfl) (Nat.le_of_ble_eq_true rfl) dX2_passesFor_34
  · skip
    refine lv_iload_n hx hb dX2_passesFor_5 rfl (lv_at hl 1 rfl) ?_
    refine lv_if_ne (tgt := 19) hx hb dX2_passesFor_6 (by decide) (fun c_3 => ?_) (fun c_3 => ?_)
    · skip
      refine lv_iload_n hx hb dX2_passesFor_19 rfl (lv_at hl 1 rfl) ?_
      refine lv_iconst (v := 3) hx hb dX2_passesFor_20 (by decide) ?_
      refine lv_icmp_ne (tgt := 33) hx hb dX2_passesFor_21 (by decide) (fun c_4 => ?_) (fun c_4 => ?_)
      · skip
        refine lv_iconst (v := 0) hx hb dX2_passesFor_33 (by decide) ?_
        exact r_bool hx hb hr hlk hW rfl (by refine ⟨?_, rfl⟩; first | with_reducible rfl | (simp [bI, passB, c_2, c_3, c_4]; done) | (simp_all [bI, passB]; done)) (Nat.le_of_ble_eq_true rfl) (Nat.le_of_ble_eq_true rfl) dX2_passesFor_34
      · skip
        refine lv_iload_n hx hb dX2_passesFor_24 rfl (lv_at hl 0 rfl) ?_
        refine lv_iconst (v := 2) hx hb dX2_passesFor_25 (by decide) ?_
        refine lv_icmp_ne (tgt := 33) hx hb dX2_passesFor_26 (by decide) (fun c_5 => ?_) (fun c_5 => ?_)
        · skip
          refine lv_iconst (v := 0) hx hb dX2_passesFor_33 (by decide) ?_
          exact r_bool hx hb hr hlk hW rfl (by refine ⟨?_, rfl⟩; first | with_reducible rfl | (simp [bI, passB, c_2, c_3, c_4, c_5]; done) | (simp_all [bI, passB]; done)) (Nat.le_of_ble_eq_true rfl) (Nat.le_of_ble_eq_true rfl) dX2_passesFor_34
        · skip
          refine lv_iconst (v := 1) hx hb dX2_passesFor_29 (by decide) ?_
          refine lv_goto (tgt := 34) hx hb dX2_passesFor_30 (by decide) ?_
          exact r_bool hx hb hr hlk hW rfl (by refine ⟨?_, rfl⟩; first | with_reducible rfl | (simp [bI, passB, c_2, c_3, c_4, c_5]; done) | (simp_all [bI, passB]; done)) (Nat.le_of_ble_eq_true rfl) (Nat.le_of_ble_eq_true rfl) dX2_passesFor_34
    · skip
      refine lv_iload_n hx hb dX2_passesFor_9 rfl (lv_at hl 0 rfl) ?_
      refine lv_iconst (v := 1) hx hb dX2_passesFor_10 (by decide) ?_
      refine lv_icmp_eq (tgt := 29) hx hb dX2_passesFor_11 (by decide) (fun c_6 => ?_) (fun c_6 => ?_)
      · skip
        refine lv_iconst (v := 1) hx hb dX2_passesFor_29 (by decide) ?_
        refine lv_goto (tgt := 34) hx hb dX2_passesFor_30 (by decide) ?_
        exact r_bool hx hb hr hlk hW rfl (by refine ⟨?_, rfl⟩; first | with_reducible rfl | (simp [bI, passB, c_2, c_3, c_6]; done) | (simp_all [bI, passB]; done)) (Nat.le_of_ble_eq_true rfl) (Nat.le_of_ble_eq_true rfl) dX2_passesFor_34
      · skip
        refine lv_iload_n hx hb dX2_passesFor_14 rfl (lv_at hl 0 rfl) ?_
        refine lv_iconst (v := 2) hx hb dX2_passesFor_15 (by decide) ?_
        refine lv_icmp_eq (tgt := 29) hx hb dX2_passesFor_16 (by decide) (fun c_7 => ?_) (fun c_7 => ?_)
        · skip
          refine lv_iconst (v := 1) hx hb dX2_passesFor_29 (by decide) ?_
          refine lv_goto (tgt := 34) hx hb dX2_passesFor_30 (by decide) ?_
          exact r_bool hx hb hr hlk hW rfl (by refine ⟨?_, rfl⟩; first | with_reducible rfl | (simp [bI, passB, c_2, c_3, c_6, c_7]; done) | (simp_all [bI, passB]; done)) (Nat.le_of_ble_eq_true rfl) (Nat.le_of_ble_eq_true rfl) dX2_passesFor_34
        · skip
          refine lv_iload_n hx hb dX2_passesFor_19 rfl (lv_at hl 1 rfl) ?_
          refine lv_iconst (v := 3) hx hb dX2_passesFor_20 (by decide) ?_
          refine lv_icmp_ne (tgt := 33) hx hb dX2_passesFor_21 (by decide) (fun c_8 => ?_) (fun c_8 => ?_)
          · skip
            refine lv_iconst (v := 0) hx hb dX2_passesFor_33 (by decide) ?_
            exact r_bool hx hb hr hlk hW rfl (by refine ⟨?_, rfl⟩; first | with_reducible rfl | (simp [bI, passB, c_2, c_3, c_6, c_7, c_8]; done) | (simp_all [bI, passB]; done)) (Nat.le_of_ble_eq_true rfl) (Nat.le_of_ble_eq_true rfl) dX2_passesFor_34
          · skip
            refine lv_iload_n hx hb dX2_passesFor_24 rfl (lv_at hl 0 rfl) ?_
            refine lv_iconst (v := 2) hx hb dX2_passesFor_25 (by decide) ?_
            refine lv_icmp_ne (tgt := 33) hx hb dX2_passesFor_26 (by decide) (fun c_9 => ?_) (fun c_9 => ?_)
            · skip
              refine lv_iconst (v := 0) hx hb dX2_passesFor_33 (by decide) ?_
              exact r_bool hx hb hr hlk hW rfl (by refine ⟨?_, rfl⟩; first | with_reducible rfl | (simp [bI, passB, c_2, c_3, c_6, c_7, c_8, c_9]; done) | (simp_all [bI, passB]; done)) (Nat.le_of_ble_eq_true rfl) (Nat.le_of_ble_eq_true rfl) dX2_passesFor_34
            · skip
              refine lv_iconst (v := 1) hx hb dX2_passesFor_29 (by decide) ?_
              refine lv_goto (tgt := 34) hx hb dX2_passesFor_30 (by decide) ?_
              exact r_bool hx hb hr hlk hW rfl (by refine ⟨?_, rfl⟩; first | with_reducible rfl | (simp [bI, passB, c_2, c_3, c_6, c_7, c_8, c_9]; done) | (simp_all [bI, passB]; done)) (Nat.le_of_ble_eq_true rfl) (Nat.le_of_ble_eq_true rfl) dX2_passesFor_34

set_option maxHeartbeats 4000000 in
set_option maxRecDepth 100000 in
theorem k_X2_isKind (l : Launch) {E : gE} {g : gm} (a b : Int32) : CM l yX2_isKind cX2_isKind 3 (some .boolean) ({ frames := 0, cells := 0, slots := 0, locals := 0 }) E [.int (a), .int (b)] g (fun vv g' => vv = some (.int (bI (kindB a b))) ∧ g' = g) := by
  refine CM.of (by decide) (Nat.le_of_ble_eq_true rfl) ?_
  intro p e s m below meth c ls hM hK hW hl
  obtain ⟨hx, hb, hr, hml, hown, hts, hlk, hnm⟩ := hM
  have hown : s.vm.findClass RX2 = some m.cls := hown
  have hl : lv_has ls 3 [(0, .int (a)), (1, .int (b))] := hl
  refine lv_iload_n hx hb dX2_isKind_0 rfl (lv_at hl 0 rfl) ?_
  refine lv_iconst (v := 4) hx hb dX2_isKind_1 (by decide) ?_
  refine lv_icmp_lt (tgt := 9) hx hb dX2_isKind_2 (by decide) (fun c_10 => ?_) (fun c_10 => ?_)
  · skip
    refine lv_iconst (v := 0) hx hb dX2_isKind_9 (by decide) ?_
    refine lv_istore_n (lv' := [(2, .int (0)), (0, .int (a)), (1, .int (b))]) hx hb dX2_isKind_10 rfl hl (by decide) rfl (fun ls hl => ?_)
    refine lv_iload_n hx hb dX2_isKind_11 rfl (lv_at hl 1 rfl) ?_
    refine lv_if_lt (tgt := 34) hx hb dX2_isKind_12 (by decide) (fun c_11 => ?_) (fun c_11 => ?_)
    · skip
      refine lv_iconst (v := 0) hx hb dX2_isKind_34 (by decide) ?_
      exact r_bool hx hb hr hlk hW rfl (by refine ⟨?_, rfl⟩; first | with_reducible rfl | (simp [bI, kindB, c_10, c_11]; done) | (simp_all [bI, kindB]; done)) (Nat.le_of_ble_eq_true rfl) (Nat.le_of_ble_eq_true rfl) dX2_isKind_35
    · skip
      refine lv_iload_n hx hb dX2_isKind_15 rfl (lv_at hl 1 rfl) ?_
      refine lv_iconst (v := 5) hx hb dX2_isKind_16 (by decide) ?_
      refine lv_icmp_gt (tgt := 34) hx hb dX2_isKind_17 (by decide) (fun c_12 => ?_) (fun c_12 => ?_)
      · skip
        refine lv_iconst (v := 0) hx hb dX2_isKind_34 (by decide) ?_
        exact r_bool hx hb hr hlk hW rfl (by refine ⟨?_, rfl⟩; first | with_reducible rfl | (simp [bI, kindB, c_10, c_11, c_12]; done) | (simp_all [bI, kindB]; done)) (Nat.le_of_ble_eq_true rfl) (Nat.le_of_ble_eq_true rfl) dX2_isKind_35
      · skip
        refine lv_iload_n hx hb dX2_isKind_20 rfl (lv_at hl 2 rfl) ?_
        refine lv_iload_n hx hb dX2_isKind_21 rfl (lv_at hl 0 rfl) ?_
        refine lv_icmp_lt (tgt := 34) hx hb dX2_isKind_22 (by decide) (fun c_13 => ?_) (fun c_13 => ?_)
        · skip
          refine lv_iconst (v := 0) hx hb dX2_isKind_34 (by decide) ?_
          exact r_bool hx hb hr hlk hW rfl (by refine ⟨?_, rfl⟩; first | with_reducible rfl | (simp [bI, kindB, c_10, c_11, c_12, c_13]; done) | (simp_all [bI, kindB]; done)) (Nat.le_of_ble_eq_true rfl) (Nat.le_of_ble_eq_true rfl) dX2_isKind_35
        · skip
          refine lv_iload_n hx hb dX2_isKind_25 rfl (lv_at hl 2 rfl) ?_
          refine lv_iconst (v := 3) hx hb dX2_isKind_26 (by decide) ?_
          refine lv_icmp_gt (tgt := 34) hx hb dX2_isKind_27 (by decide) (fun c_14 => ?_) (fun c_14 => ?_)
          · skip
            refine lv_iconst (v := 0) hx hb dX2_isKind_34 (by decide) ?_
            exact r_bool hx hb hr hlk hW rfl (by refine ⟨?_, rfl⟩; first | with_reducible rfl | (simp [bI, kindB, c_10, c_11, c_12, c_13, c_14]; done) | (simp_all [bI, kindB]; done)) (Nat.le_of_ble_eq_true rfl) (Nat.le_of_ble_eq_true rfl) dX2_isKind_35
          · skip
            refine lv_iconst (v := 1) hx hb dX2_isKind_30 (by decide) ?_
            refine lv_goto (tgt := 35) hx hb dX2_isKind_31 (by decide) ?_
            exact r_bool hx hb hr hlk hW rfl (by refine ⟨?_, rfl⟩; first | with_reducible rfl | (simp [bI, kindB, c_10, c_11, c_12, c_13, c_14]; done) | (simp_all [bI, kindB]; done)) (Nat.le_of_ble_eq_true rfl) (Nat.le_of_ble_eq_true rfl) dX2_isKind_35
  · skip
    refine lv_iconst (v := 1) hx hb dX2_isKind_5 (by decide) ?_
    refine lv_goto (tgt := 10) hx hb dX2_isKind_6 (by decide) ?_
    refine lv_istore_n (lv' := [(2, .int (1)), (0, .int (a)), (1, .int (b))]) hx hb dX2_isKind_10 rfl hl (by decide) rfl (fun ls hl => ?_)
    refine lv_iload_n hx hb dX2_isKind_11 rfl (lv_at hl 1 rfl) ?_
    refine lv_if_lt (tgt := 34) hx hb dX2_isKind_12 (by decide) (fun c_15 => ?_) (fun c_15 => ?_)
    · skip
      refine lv_iconst (v := 0) hx hb dX2_isKind_34 (by decide) ?_
      exact r_bool hx hb hr hlk hW rfl (by refine ⟨?_, rfl⟩; first | with_reducible rfl | (simp [bI, kindB, c_10, c_15]; done) | (simp_all [bI, kindB]; done)) (Nat.le_of_ble_eq_true rfl) (Nat.le_of_ble_eq_true rfl) dX2_isKind_35
    · skip
      refine lv_iload_n hx hb dX2_isKind_15 rfl (lv_at hl 1 rfl) ?_
      refine lv_iconst (v := 5) hx hb dX2_isKind_16 (by decide) ?_
      refine lv_icmp_gt (tgt := 34) hx hb dX2_isKind_17 (by decide) (fun c_16 => ?_) (fun c_16 => ?_)
      · skip
        refine lv_iconst (v := 0) hx hb dX2_isKind_34 (by decide) ?_
        exact r_bool hx hb hr hlk hW rfl (by refine ⟨?_, rfl⟩; first | with_reducible rfl | (simp [bI, kindB, c_10, c_15, c_16]; done) | (simp_all [bI, kindB]; done)) (Nat.le_of_ble_eq_true rfl) (Nat.le_of_ble_eq_true rfl) dX2_isKind_35
      · skip
        refine lv_iload_n hx hb dX2_isKind_20 rfl (lv_at hl 2 rfl) ?_
        refine lv_iload_n hx hb dX2_isKind_21 rfl (lv_at hl 0 rfl) ?_
        refine lv_icmp_lt (tgt := 34) hx hb dX2_isKind_22 (by decide) (fun c_17 => ?_) (fun c_17 => ?_)
        · skip
          refine lv_iconst (v := 0) hx hb dX2_isKind_34 (by decide) ?_
          exact r_bool hx hb hr hlk hW rfl (by refine ⟨?_, rfl⟩; first | with_reducible rfl | (simp [bI, kindB, c_10, c_15, c_16, c_17]; done) | (simp_all [bI, kindB]; done)) (Nat.le_of_ble_eq_true rfl) (Nat.le_of_ble_eq_true rfl) dX2_isKind_35
        · skip
          refine lv_iload_n hx hb dX2_isKind_25 rfl (lv_at hl 2 rfl) ?_
          refine lv_iconst (v := 3) hx hb dX2_isKind_26 (by decide) ?_
          refine lv_icmp_gt (tgt := 34) hx hb dX2_isKind_27 (by decide) (fun c_18 => ?_) (fun c_18 => ?_)
          · skip
            refine lv_iconst (v := 0) hx hb dX2_isKind_34 (by decide) ?_
            exact r_bool hx hb hr hlk hW rfl (by refine ⟨?_, rfl⟩; first | with_reducible rfl | (simp [bI, kindB, c_10, c_15, c_16, c_17, c_18]; done) | (simp_all [bI, kindB]; done)) (Nat.le_of_ble_eq_true rfl) (Nat.le_of_ble_eq_true rfl) dX2_isKind_35
          · skip
            refine lv_iconst (v := 1) hx hb dX2_isKind_30 (by decide) ?_
            refine lv_goto (tgt := 35) hx hb dX2_isKind_31 (by decide) ?_
            exact r_bool hx hb hr hlk hW rfl (by refine ⟨?_, rfl⟩; first | with_reducible rfl | (simp [bI, kindB, c_10, c_15, c_16, c_17, c_18]; done) | (simp_all [bI, kindB]; done)) (Nat.le_of_ble_eq_true rfl) (Nat.le_of_ble_eq_true rfl) dX2_isKind_35

set_option maxHeartbeats 4000000 in
set_option maxRecDepth 100000 in
theorem k_X2_isOfFigures (l : Launch) {E : gE} {g : gm} (a b : Int32) : CM l yX2_isOfFigures cX2_isOfFigures 2 (some .boolean) ({ frames := 0, cells := 0, slots := 0, locals := 0 }) E [.int (a), .int (b)] g (fun vv g' => vv = some (.int (bI (figB a b))) ∧ g' = g) := by
  refine CM.of (by decide) (Nat.le_of_ble_eq_true rfl) ?_
  intro p e s m below meth c ls hM hK hW hl
  obtain ⟨hx, hb, hr, hml, hown, hts, hlk, hnm⟩ := hM
  have hown : s.vm.findClass RX2 = some m.cls := hown
  have hl : lv_has ls 2 [(0, .int (a)), (1, .int (b))] := hl
  refine lv_iload_n hx hb dX2_isOfFigures_0 rfl (lv_at hl 0 rfl) ?_
  refine lv_iconst (v := 4) hx hb dX2_isOfFigures_1 (by decide) ?_
  refine lv_icmp_lt (tgt := 14) hx hb dX2_isOfFigures_2 (by decide) (fun c_19 => ?_) (fun c_19 => ?_)
  · skip
    refine lv_iconst (v := 0) hx hb dX2_isOfFigures_14 (by decide) ?_
    exact r_bool hx hb hr hlk hW rfl (by refine ⟨?_, rfl⟩; first | with_reducible rfl | (simp [bI, figB, c_19]; done) | (simp_all [bI, figB]; done)) (Nat.le_of_ble_eq_true rfl) (Nat.le_of_ble_eq_true rfl) dX2_isOfFigures_15
  · skip
    refine lv_iload_n hx hb dX2_isOfFigures_5 rfl (lv_at hl 1 rfl) ?_
    refine lv_iconst (v := 1) hx hb dX2_isOfFigures_6 (by decide) ?_
    refine lv_icmp_ne (tgt := 14) hx hb dX2_isOfFigures_7 (by decide) (fun c_20 => ?_) (fun c_20 => ?_)
    · skip
      refine lv_iconst (v := 0) hx hb dX2_isOfFigures_14 (by decide) ?_
      exact r_bool hx hb hr hlk hW rfl (by refine ⟨?_, rfl⟩; first | with_reducible rfl | (simp [bI, figB, c_19, c_20]; done) | (simp_all [bI, figB]; done)) (Nat.le_of_ble_eq_true rfl) (Nat.le_of_ble_eq_true rfl) dX2_isOfFigures_15
    · skip
      refine lv_iconst (v := 1) hx hb dX2_isOfFigures_10 (by decide) ?_
      refine lv_goto (tgt := 15) hx hb dX2_isOfFigures_11 (by decide) ?_
      exact r_bool hx hb hr hlk hW rfl (by refine ⟨?_, rfl⟩; first | with_reducible rfl | (simp [bI, figB, c_19, c_20]; done) | (simp_all [bI, figB]; done)) (Nat.le_of_ble_eq_true rfl) (Nat.le_of_ble_eq_true rfl) dX2_isOfFigures_15

set_option maxHeartbeats 4000000 in
set_option maxRecDepth 100000 in
theorem k_X2_failureOf (l : Launch) {E : gE} {g : gm} (a : Int32) : CM l yX2_failureOf cX2_failureOf 1 (some .int) ({ frames := 0, cells := 0, slots := 0, locals := 0 }) E [.int (a)] g (fun vv g' => vv = some (.int (failI a)) ∧ g' = g) := by
  refine CM.of (by decide) (Nat.le_of_ble_eq_true rfl) ?_
  intro p e s m below meth c ls hM hK hW hl
  obtain ⟨hx, hb, hr, hml, hown, hts, hlk, hnm⟩ := hM
  have hown : s.vm.findClass RX2 = some m.cls := hown
  have hl : lv_has ls 1 [(0, .int (a))] := hl
  refine lv_iload_n hx hb dX2_failureOf_0 rfl (lv_at hl 0 rfl) ?_
  refine lv_bipush (v := -10) hx hb dX2_failureOf_1 (by decide) ?_
  refine lv_icmp_ge (tgt := 13) hx hb dX2_failureOf_3 (by decide) (fun c_21 => ?_) (fun c_21 => ?_)
  · skip
    have c_21 := Int32.not_lt.mpr c_21
    refine lv_iconst (v := 0) hx hb dX2_failureOf_13 (by decide) ?_
    exact r_int hx hb hr hlk hW (by refine ⟨?_, rfl⟩; first | with_reducible rfl | (simp [bI, failI, c_21]; done) | (simp_all [bI, failI]; done)) (Nat.le_of_ble_eq_true rfl) (Nat.le_of_ble_eq_true rfl) dX2_failureOf_14
  · skip
    have c_21 := Int32.not_le.mp c_21
    refine lv_bipush (v := -10) hx hb dX2_failureOf_6 (by decide) ?_
    refine lv_iload_n hx hb dX2_failureOf_8 rfl (lv_at hl 0 rfl) ?_
    refine lv_isub hx hb dX2_failureOf_9 ?_
    refine lv_goto (tgt := 14) hx hb dX2_failureOf_10 (by decide) ?_
    exact r_int hx hb hr hlk hW (by refine ⟨?_, rfl⟩; first | with_reducible rfl | (simp [bI, failI, c_21]; done) | (simp_all [bI, failI]; done)) (Nat.le_of_ble_eq_true rfl) (Nat.le_of_ble_eq_true rfl) dX2_failureOf_14

set_option maxHeartbeats 4000000 in
set_option maxRecDepth 100000 in
theorem k_X1_fits (l : Launch) {E : gE} {x xa xk : Nat} {ma pa ka : Nat → Nat} {z : Bool} {r : sg} {g : gm} (hR : HR E x xa xk ma pa ka z r g) {i : Nat} (hi : i < nm r) (b d : Int32) : CM l yX1_fits cX1_fits 3 (some .boolean) ({ frames := 1, cells := 0, slots := 0, locals := 21 }) E [.ref (ma i), .int (b), .int (d)] g (fun vv g' => vv = some (.int (bI (fitB r i b d))) ∧ g' = g) := by
  refine CM.of (by decide) (Nat.le_of_ble_eq_true rfl) ?_
  intro p e s m below meth c ls hM hK hW hl
  obtain ⟨hx, hb, hr, hml, hown, hts, hlk, hnm⟩ := hM
  have hown : s.vm.findClass RX1 = some m.cls := hown
  have hl : lv_has ls 3 [(0, .ref (ma i)), (1, .int (b)), (2, .int (d))] := hl
  refine lv_aload_n hx hb dX1_fits_0 rfl (lv_at hl 0 rfl) ?_
  refine hm_get hx hb hts hown hK hW hR hi 2 (by decide) fl_RX1_18 (v := .int (r 1 i)) rfl dX1_fits_1 ?_
  refine lv_iload_n hx hb dX1_fits_4 rfl (lv_at hl 2 rfl) ?_
  refine lv_icmp_ne (tgt := 23) hx hb dX1_fits_5 (by decide) (fun c_22 => ?_) (fun c_22 => ?_)
  · skip
    refine lv_iconst (v := 0) hx hb dX1_fits_23 (by decide) ?_
    exact r_bool hx hb hr hlk hW rfl (by refine ⟨?_, rfl⟩; first | with_reducible rfl | (simp [bI, fitB, c_22]; done) | (simp_all [bI, fitB]; done)) (Nat.le_of_ble_eq_true rfl) (Nat.le_of_ble_eq_true rfl) dX1_fits_24
  · skip
    refine lv_aload_n hx hb dX1_fits_8 rfl (lv_at hl 0 rfl) ?_
    refine hm_get hx hb hts hown hK hW hR hi 1 (by decide) fl_RX1_15 (v := .int (r 0 i)) rfl dX1_fits_9 ?_
    refine lv_iload_n hx hb dX1_fits_12 rfl (lv_at hl 1 rfl) ?_
    refine c_statN (own := RX1) (As := [.int (r 0 i), .int (b)]) (rest := []) hx hb hml hown hts hK hW (k_X2_passesFor l _ _) hK.2.2.1 st_yX2_passesFor in_RX2 cd_yX2_passesFor 2 (by decide +kernel) ⟨Nat.le_of_ble_eq_true rfl, Nat.le_of_ble_eq_true rfl⟩ rfl hl.1 rfl (Nat.le_of_ble_eq_true rfl) dX1_fits_13 ⟨Nat.le_of_ble_eq_true rfl, Nat.le_of_ble_eq_true rfl⟩ (fun v g2 H1 locs1 hp hW hKT => ?_)
    obtain ⟨rfl, hg⟩ := hp
    rw [hg] at hW
    refine W.eq (g2 := F0 m 16 ls [.int (bI (passB (r 0 i) (b)))]) rfl ?_
    refine lv_if_eq (tgt := 23) hx hb dX1_fits_16 (by decide) (fun c_23 => ?_) (fun c_23 => ?_)
    · skip
      have c_23 := (bI_eq0 _).mp c_23
      refine lv_iconst (v := 0) hx hb dX1_fits_23 (by decide) ?_
      exact r_bool hx hb hr hlk hW rfl (by refine ⟨?_, rfl⟩; first | with_reducible rfl | (simp [bI, fitB, c_22, c_23]; done) | (simp_all [bI, fitB]; done)) (Nat.le_of_ble_eq_true rfl) (Nat.le_of_ble_eq_true rfl) dX1_fits_24
    · skip
      have c_23 := bI_ne0 c_23
      refine lv_iconst (v := 1) hx hb dX1_fits_19 (by decide) ?_
      refine lv_goto (tgt := 24) hx hb dX1_fits_20 (by decide) ?_
      exact r_bool hx hb hr hlk hW rfl (by refine ⟨?_, rfl⟩; first | with_reducible rfl | (simp [bI, fitB, c_22, c_23]; done) | (simp_all [bI, fitB]; done)) (Nat.le_of_ble_eq_true rfl) (Nat.le_of_ble_eq_true rfl) dX1_fits_24

set_option maxHeartbeats 4000000 in
set_option maxRecDepth 100000 in
theorem k_X1_holdsN (l : Launch) {E : gE} {x xa xk : Nat} {ma pa ka : Nat → Nat} {z : Bool} {r : sg} {g : gm} (hR : HR E x xa xk ma pa ka z r g) {i : Nat} (hi : i < nm r) : CM l yX1_holds cX1_holds 2 (some .boolean) ({ frames := 2, cells := 0, slots := 0, locals := 43 }) E [.ref (ma i), .null] g (fun vv g' => vv = some (.int (bI true)) ∧ g' = g) := by
  refine CM.of (by decide) (Nat.le_of_ble_eq_true rfl) ?_
  intro p e s m below meth c ls hM hK hW hl
  obtain ⟨hx, hb, hr, hml, hown, hts, hlk, hnm⟩ := hM
  have hown : s.vm.findClass RX1 = some m.cls := hown
  have hl : lv_has ls 2 [(0, .ref (ma i)), (1, .null)] := hl
  refine lv_aload_nN hx hb dX1_holds_0 rfl (lv_at hl 1 rfl) ?_
  refine lv_ifnullN (tgt := 21) hx hb dX1_holds_1 (by decide) ?_
  refine lv_iconst (v := 1) hx hb dX1_holds_21 (by decide) ?_
  refine lv_goto (tgt := 26) hx hb dX1_holds_22 (by decide) ?_
  exact r_bool hx hb hr hlk hW rfl (by refine ⟨?_, rfl⟩; first | with_reducible rfl | (simp [bI]; done) | (simp_all [bI]; done)) (Nat.le_of_ble_eq_true rfl) (Nat.le_of_ble_eq_true rfl) dX1_holds_26

set_option maxHeartbeats 4000000 in
set_option maxRecDepth 100000 in
theorem k_X1_holds (l : Launch) {E : gE} {x xa xk : Nat} {ma pa ka : Nat → Nat} {z : Bool} {r : sg} {g : gm} (hR : HR E x xa xk ma pa ka z r g) {i : Nat} (hi : i < nm r) {j : Nat} (hj : j < nm r) : CM l yX1_holds cX1_holds 2 (some .boolean) ({ frames := 2, cells := 0, slots := 0, locals := 43 }) E [.ref (ma i), .ref (ma j)] g (fun vv g' => vv = some (.int (bI (fitB r j (r 0 i) (r 1 i - 1)))) ∧ g' = g) := by
  refine CM.of (by decide) (Nat.le_of_ble_eq_true rfl) ?_
  intro p e s m below meth c ls hM hK hW hl
  obtain ⟨hx, hb, hr, hml, hown, hts, hlk, hnm⟩ := hM
  have hown : s.vm.findClass RX1 = some m.cls := hown
  have hl : lv_has ls 2 [(0, .ref (ma i)), (1, .ref (ma j))] := hl
  refine lv_aload_n hx hb dX1_holds_0 rfl (lv_at hl 1 rfl) ?_
  refine lv_ifnull hx hb dX1_holds_1 ?_
  refine lv_aload_n hx hb dX1_holds_4 rfl (lv_at hl 1 rfl) ?_
  refine lv_aload_n hx hb dX1_holds_5 rfl (lv_at hl 0 rfl) ?_
  refine hm_get hx hb hts hown hK hW hR hi 1 (by decide) fl_RX1_15 (v := .int (r 0 i)) rfl dX1_holds_6 ?_
  refine lv_aload_n hx hb dX1_holds_9 rfl (lv_at hl 0 rfl) ?_
  refine hm_get hx hb hts hown hK hW hR hi 2 (by decide) fl_RX1_18 (v := .int (r 1 i)) rfl dX1_holds_10 ?_
  refine lv_iconst (v := 1) hx hb dX1_holds_13 (by decide) ?_
  refine lv_isub hx hb dX1_holds_14 ?_
  refine c_virt (own := RX1) (As := [.int (r 0 i), .int ((r 1 i) - (1))]) (rest := []) hx hb hml hown hts hK hW (k_X1_fits l hR hj _ _) ml_RX1_40 im_yX1_fits se_yX1_fits in_RX1 cd_yX1_fits 2 (by decide +kernel) ⟨Nat.le_of_ble_eq_true rfl, Nat.le_of_ble_eq_true rfl⟩ (hR.2.2.2.1 _ hj).1 rfl rfl rfl hl.1 rfl (Nat.le_of_ble_eq_true rfl) dX1_holds_15 ⟨Nat.le_of_ble_eq_true rfl, Nat.le_of_ble_eq_true rfl⟩ (fun v g2 H1 locs1 hp hW hKT => ?_)
  obtain ⟨rfl, hg⟩ := hp
  rw [hg] at hW
  refine W.eq (g2 := F0 m 18 ls [.int (bI (fitB r j (r 0 i) ((r 1 i) - (1))))]) rfl ?_
  refine lv_if_eq (tgt := 25) hx hb dX1_holds_18 (by decide) (fun c_24 => ?_) (fun c_24 => ?_)
  · skip
    have c_24 := (bI_eq0 _).mp c_24
    refine lv_iconst (v := 0) hx hb dX1_holds_25 (by decide) ?_
    exact r_bool hx hb hr hlk hW rfl (by refine ⟨?_, rfl⟩; first | with_reducible rfl | (simp [bI, c_24]; done) | (simp_all [bI]; done)) (Nat.le_of_ble_eq_true rfl) (Nat.le_of_ble_eq_true rfl) dX1_holds_26
  · skip
    have c_24 := bI_ne0 c_24
    refine lv_iconst (v := 1) hx hb dX1_holds_21 (by decide) ?_
    refine lv_goto (tgt := 26) hx hb dX1_holds_22 (by decide) ?_
    exact r_bool hx hb hr hlk hW rfl (by refine ⟨?_, rfl⟩; first | with_reducible rfl | (simp [bI, c_24]; done) | (simp_all [bI]; done)) (Nat.le_of_ble_eq_true rfl) (Nat.le_of_ble_eq_true rfl) dX1_holds_26

set_option maxHeartbeats 4000000 in
set_option maxRecDepth 100000 in
theorem k_X1_hasMessagePlace (l : Launch) {E : gE} {x xa xk : Nat} {ma pa ka : Nat → Nat} {z : Bool} {r : sg} {g : gm} (hR : HR E x xa xk ma pa ka z r g) {i : Nat} (hi : i < nm r) (j : Int32) : CM l yX1_hasMessagePlace cX1_hasMessagePlace 2 (some .boolean) ({ frames := 0, cells := 0, slots := 0, locals := 0 }) E [.ref (ma i), .int (j)] g (fun vv g' => vv = some (.int (bI (hasP r i j))) ∧ g' = g) := by
  refine CM.of (by decide) (Nat.le_of_ble_eq_true rfl) ?_
  intro p e s m below meth c ls hM hK hW hl
  obtain ⟨hx, hb, hr, hml, hown, hts, hlk, hnm⟩ := hM
  have hown : s.vm.findClass RX1 = some m.cls := hown
  have hl : lv_has ls 2 [(0, .ref (ma i)), (1, .int (j))] := hl
  refine lv_aload_n hx hb dX1_hasMessagePlace_0 rfl (lv_at hl 0 rfl) ?_
  refine hm_get hx hb hts hown hK hW hR hi 3 (by decide) fl_RX1_25 (v := .int (bI (figB (r 0 i) (r 1 i)))) rfl dX1_hasMessagePlace_1 ?_
  refine lv_if_ne (tgt := 24) hx hb dX1_hasMessagePlace_4 (by decide) (fun c_25 => ?_) (fun c_25 => ?_)
  · skip
    have c_25 := bI_ne0 c_25
    refine lv_iconst (v := 0) hx hb dX1_hasMessagePlace_24 (by decide) ?_
    exact r_bool hx hb hr hlk hW rfl (by refine ⟨?_, rfl⟩; first | with_reducible rfl | (simp [bI, hasP, c_25]; done) | (simp_all [bI, hasP]; done)) (Nat.le_of_ble_eq_true rfl) (Nat.le_of_ble_eq_true rfl) dX1_hasMessagePlace_25
  · skip
    have c_25 := (bI_eq0 _).mp c_25
    refine lv_iload_n hx hb dX1_hasMessagePlace_7 rfl (lv_at hl 1 rfl) ?_
    refine lv_if_lt (tgt := 24) hx hb dX1_hasMessagePlace_8 (by decide) (fun c_26 => ?_) (fun c_26 => ?_)
    · skip
      refine lv_iconst (v := 0) hx hb dX1_hasMessagePlace_24 (by decide) ?_
      exact r_bool hx hb hr hlk hW rfl (by refine ⟨?_, rfl⟩; first | with_reducible rfl | (simp [bI, hasP, c_25, c_26]; done) | (simp_all [bI, hasP]; done)) (Nat.le_of_ble_eq_true rfl) (Nat.le_of_ble_eq_true rfl) dX1_hasMessagePlace_25
    · skip
      refine lv_iload_n hx hb dX1_hasMessagePlace_11 rfl (lv_at hl 1 rfl) ?_
      refine lv_aload_n hx hb dX1_hasMessagePlace_12 rfl (lv_at hl 0 rfl) ?_
      refine hm_get hx hb hts hown hK hW hR hi 4 (by decide) fl_RX1_29 (v := .ref (pa i)) rfl dX1_hasMessagePlace_13 ?_
      refine hp_len hx hb hK hW hR hi dX1_hasMessagePlace_16 ?_
      refine lv_icmp_ge (tgt := 24) hx hb dX1_hasMessagePlace_17 (by decide) (fun c_27 => ?_) (fun c_27 => ?_)
      · skip
        have c_27 := Int32.not_lt.mpr c_27
        refine lv_iconst (v := 0) hx hb dX1_hasMessagePlace_24 (by decide) ?_
        exact r_bool hx hb hr hlk hW rfl (by refine ⟨?_, rfl⟩; first | with_reducible rfl | (simp [bI, hasP, c_25, c_26, c_27]; done) | (simp_all [bI, hasP]; done)) (Nat.le_of_ble_eq_true rfl) (Nat.le_of_ble_eq_true rfl) dX1_hasMessagePlace_25
      · skip
        have c_27 := Int32.not_le.mp c_27
        refine lv_iconst (v := 1) hx hb dX1_hasMessagePlace_20 (by decide) ?_
        refine lv_goto (tgt := 25) hx hb dX1_hasMessagePlace_21 (by decide) ?_
        exact r_bool hx hb hr hlk hW rfl (by refine ⟨?_, rfl⟩; first | with_reducible rfl | (simp [bI, hasP, c_25, c_26, c_27]; done) | (simp_all [bI, hasP]; done)) (Nat.le_of_ble_eq_true rfl) (Nat.le_of_ble_eq_true rfl) dX1_hasMessagePlace_25

set_option maxHeartbeats 4000000 in
set_option maxRecDepth 100000 in
theorem k_X1_hasNumber (l : Launch) {E : gE} {x xa xk : Nat} {ma pa ka : Nat → Nat} {z : Bool} {r : sg} {g : gm} (hR : HR E x xa xk ma pa ka z r g) {i : Nat} (hi : i < nm r) (j : Int32) : CM l yX1_hasNumber cX1_hasNumber 2 (some .boolean) ({ frames := 0, cells := 0, slots := 0, locals := 0 }) E [.ref (ma i), .int (j)] g (fun vv g' => vv = some (.int (bI (hasN r i j))) ∧ g' = g) := by
  refine CM.of (by decide) (Nat.le_of_ble_eq_true rfl) ?_
  intro p e s m below meth c ls hM hK hW hl
  obtain ⟨hx, hb, hr, hml, hown, hts, hlk, hnm⟩ := hM
  have hown : s.vm.findClass RX1 = some m.cls := hown
  have hl : lv_has ls 2 [(0, .ref (ma i)), (1, .int (j))] := hl
  refine lv_aload_n hx hb dX1_hasNumber_0 rfl (lv_at hl 0 rfl) ?_
  refine hm_get hx hb hts hown hK hW hR hi 3 (by decide) fl_RX1_25 (v := .int (bI (figB (r 0 i) (r 1 i)))) rfl dX1_hasNumber_1 ?_
  refine lv_if_eq (tgt := 24) hx hb dX1_hasNumber_4 (by decide) (fun c_28 => ?_) (fun c_28 => ?_)
  · skip
    have c_28 := (bI_eq0 _).mp c_28
    refine lv_iconst (v := 0) hx hb dX1_hasNumber_24 (by decide) ?_
    exact r_bool hx hb hr hlk hW rfl (by refine ⟨?_, rfl⟩; first | with_reducible rfl | (simp [bI, hasN, c_28]; done) | (simp_all [bI, hasN]; done)) (Nat.le_of_ble_eq_true rfl) (Nat.le_of_ble_eq_true rfl) dX1_hasNumber_25
  · skip
    have c_28 := bI_ne0 c_28
    refine lv_iload_n hx hb dX1_hasNumber_7 rfl (lv_at hl 1 rfl) ?_
    refine lv_if_lt (tgt := 24) hx hb dX1_hasNumber_8 (by decide) (fun c_29 => ?_) (fun c_29 => ?_)
    · skip
      refine lv_iconst (v := 0) hx hb dX1_hasNumber_24 (by decide) ?_
      exact r_bool hx hb hr hlk hW rfl (by refine ⟨?_, rfl⟩; first | with_reducible rfl | (simp [bI, hasN, c_28, c_29]; done) | (simp_all [bI, hasN]; done)) (Nat.le_of_ble_eq_true rfl) (Nat.le_of_ble_eq_true rfl) dX1_hasNumber_25
    · skip
      refine lv_iload_n hx hb dX1_hasNumber_11 rfl (lv_at hl 1 rfl) ?_
      refine lv_aload_n hx hb dX1_hasNumber_12 rfl (lv_at hl 0 rfl) ?_
      refine hm_get hx hb hts hown hK hW hR hi 4 (by decide) fl_RX1_29 (v := .ref (pa i)) rfl dX1_hasNumber_13 ?_
      refine hp_len hx hb hK hW hR hi dX1_hasNumber_16 ?_
      refine lv_icmp_ge (tgt := 24) hx hb dX1_hasNumber_17 (by decide) (fun c_30 => ?_) (fun c_30 => ?_)
      · skip
        have c_30 := Int32.not_lt.mpr c_30
        refine lv_iconst (v := 0) hx hb dX1_hasNumber_24 (by decide) ?_
        exact r_bool hx hb hr hlk hW rfl (by refine ⟨?_, rfl⟩; first | with_reducible rfl | (simp [bI, hasN, c_28, c_29, c_30]; done) | (simp_all [bI, hasN]; done)) (Nat.le_of_ble_eq_true rfl) (Nat.le_of_ble_eq_true rfl) dX1_hasNumber_25
      · skip
        have c_30 := Int32.not_le.mp c_30
        refine lv_iconst (v := 1) hx hb dX1_hasNumber_20 (by decide) ?_
        refine lv_goto (tgt := 25) hx hb dX1_hasNumber_21 (by decide) ?_
        exact r_bool hx hb hr hlk hW rfl (by refine ⟨?_, rfl⟩; first | with_reducible rfl | (simp [bI, hasN, c_28, c_29, c_30]; done) | (simp_all [bI, hasN]; done)) (Nat.le_of_ble_eq_true rfl) (Nat.le_of_ble_eq_true rfl) dX1_hasNumber_25

set_option maxHeartbeats 4000000 in
set_option maxRecDepth 100000 in
theorem k_X1_weight (l : Launch) {E : gE} {x xa xk : Nat} {ma pa ka : Nat → Nat} {z : Bool} {r : sg} {g : gm} (hR : HR E x xa xk ma pa ka z r g) {i : Nat} (hi : i < nm r) : CM l yX1_weight cX1_weight 1 (some .int) ({ frames := 0, cells := 0, slots := 0, locals := 0 }) E [.ref (ma i)] g (fun vv g' => vv = some (.int (if r 1 i = 0 then 1 else r 3 i)) ∧ g' = g) := by
  refine CM.of (by decide) (Nat.le_of_ble_eq_true rfl) ?_
  intro p e s m below meth c ls hM hK hW hl
  obtain ⟨hx, hb, hr, hml, hown, hts, hlk, hnm⟩ := hM
  have hown : s.vm.findClass RX1 = some m.cls := hown
  have hl : lv_has ls 1 [(0, .ref (ma i))] := hl
  refine lv_aload_n hx hb dX1_weight_0 rfl (lv_at hl 0 rfl) ?_
  refine hm_get hx hb hts hown hK hW hR hi 2 (by decide) fl_RX1_18 (v := .int (r 1 i)) rfl dX1_weight_1 ?_
  refine lv_if_ne (tgt := 11) hx hb dX1_weight_4 (by decide) (fun c_31 => ?_) (fun c_31 => ?_)
  · skip
    refine lv_aload_n hx hb dX1_weight_11 rfl (lv_at hl 0 rfl) ?_
    refine hm_get hx hb hts hown hK hW hR hi 4 (by decide) fl_RX1_29 (v := .ref (pa i)) rfl dX1_weight_12 ?_
    refine hp_len hx hb hK hW hR hi dX1_weight_15 ?_
    exact r_int hx hb hr hlk hW (by refine ⟨?_, rfl⟩; first | with_reducible rfl | (simp [bI, c_31]; done) | (simp_all [bI]; done)) (Nat.le_of_ble_eq_true rfl) (Nat.le_of_ble_eq_true rfl) dX1_weight_16
  · skip
    refine lv_iconst (v := 1) hx hb dX1_weight_7 (by decide) ?_
    refine lv_goto (tgt := 16) hx hb dX1_weight_8 (by decide) ?_
    exact r_int hx hb hr hlk hW (by refine ⟨?_, rfl⟩; first | with_reducible rfl | (simp [bI, c_31]; done) | (simp_all [bI]; done)) (Nat.le_of_ble_eq_true rfl) (Nat.le_of_ble_eq_true rfl) dX1_weight_16

set_option maxHeartbeats 4000000 in
set_option maxRecDepth 100000 in
theorem k_X1_lowestBits (l : Launch) {E : gE} {x xa xk : Nat} {ma pa ka : Nat → Nat} {z : Bool} {r : sg} {g : gm} (hR : HR E x xa xk ma pa ka z r g) {i : Nat} (hi : i < nm r) (v : Int32) : CM l yX1_lowestBits cX1_lowestBits 2 (some .int) ({ frames := 0, cells := 0, slots := 0, locals := 0 }) E [.ref (ma i), .int (v)] g (fun vv g' => vv = some (.int (lowI (r 0 i) v)) ∧ g' = g) := by
  refine CM.of (by decide) (Nat.le_of_ble_eq_true rfl) ?_
  intro p e s m below meth c ls hM hK hW hl
  obtain ⟨hx, hb, hr, hml, hown, hts, hlk, hnm⟩ := hM
  have hown : s.vm.findClass RX1 = some m.cls := hown
  have hl : lv_has ls 2 [(0, .ref (ma i)), (1, .int (v))] := hl
  refine lv_aload_n hx hb dX1_lowestBits_0 rfl (lv_at hl 0 rfl) ?_
  refine hm_get hx hb hts hown hK hW hR hi 1 (by decide) fl_RX1_15 (v := .int (r 0 i)) rfl dX1_lowestBits_1 ?_
  refine lv_iconst (v := 4) hx hb dX1_lowestBits_4 (by decide) ?_
  refine lv_icmp_ne (tgt := 11) hx hb dX1_lowestBits_5 (by decide) (fun c_32 => ?_) (fun c_32 => ?_)
  · skip
    refine lv_iload_n hx hb dX1_lowestBits_11 rfl (lv_at hl 1 rfl) ?_
    refine lv_i2c hx hb dX1_lowestBits_12 rfl ?_
    exact r_int hx hb hr hlk hW (by refine ⟨?_, rfl⟩; first | with_reducible rfl | (simp [bI, lowI, c_32]; done) | (simp_all [bI, lowI]; done)) (Nat.le_of_ble_eq_true rfl) (Nat.le_of_ble_eq_true rfl) dX1_lowestBits_13
  · skip
    refine lv_iload_n hx hb dX1_lowestBits_8 rfl (lv_at hl 1 rfl) ?_
    refine lv_i2b hx hb dX1_lowestBits_9 rfl ?_
    exact r_int hx hb hr hlk hW (by refine ⟨?_, rfl⟩; first | with_reducible rfl | (simp [bI, lowI, c_32]; done) | (simp_all [bI, lowI]; done)) (Nat.le_of_ble_eq_true rfl) (Nat.le_of_ble_eq_true rfl) dX1_lowestBits_10

set_option maxHeartbeats 4000000 in
set_option maxRecDepth 100000 in
theorem k_X0_asksFor (l : Launch) {E : gE} {x xa xk : Nat} {ma pa ka : Nat → Nat} {z : Bool} {r : sg} {g : gm} (hR : HR E x xa xk ma pa ka z r g) {k : Nat} (hk : k < 8) (hs : r 5 k ≠ 0) {i : Nat} (hi : i < nm r) : CM l yX0_asksFor cX0_asksFor 2 (some .boolean) ({ frames := 2, cells := 0, slots := 0, locals := 43 }) E [.ref (ka k), .ref (ma i)] g (fun vv g' => vv = some (.int (bI (r 6 k == 0 && fitB r i (r 8 k) (r 9 k)))) ∧ g' = g) := by
  refine CM.of (by decide) (Nat.le_of_ble_eq_true rfl) ?_
  intro p e s m below meth c ls hM hK hW hl
  obtain ⟨hx, hb, hr, hml, hown, hts, hlk, hnm⟩ := hM
  have hown : s.vm.findClass RX0 = some m.cls := hown
  have hl : lv_has ls 2 [(0, .ref (ka k)), (1, .ref (ma i))] := hl
  refine lv_aload_n hx hb dX0_asksFor_0 rfl (lv_at hl 0 rfl) ?_
  refine hk_get hx hb hts hown hK hW hR hk hs 9 (by decide) fl_RX0_40 (v := .int (r 6 k)) rfl dX0_asksFor_1 ?_
  refine lv_if_ne (tgt := 26) hx hb dX0_asksFor_4 (by decide) (fun c_33 => ?_) (fun c_33 => ?_)
  · skip
    refine lv_iconst (v := 0) hx hb dX0_asksFor_26 (by decide) ?_
    exact r_bool hx hb hr hlk hW rfl (by refine ⟨?_, rfl⟩; first | with_reducible rfl | (simp [bI, c_33]; done) | (simp_all [bI]; done)) (Nat.le_of_ble_eq_true rfl) (Nat.le_of_ble_eq_true rfl) dX0_asksFor_27
  · skip
    refine lv_aload_n hx hb dX0_asksFor_7 rfl (lv_at hl 1 rfl) ?_
    refine lv_aload_n hx hb dX0_asksFor_8 rfl (lv_at hl 0 rfl) ?_
    refine hk_get hx hb hts hown hK hW hR hk hs 1 (by decide) fl_RX0_15 (v := .int (r 8 k)) rfl dX0_asksFor_9 ?_
    refine lv_aload_n hx hb dX0_asksFor_12 rfl (lv_at hl 0 rfl) ?_
    refine hk_get hx hb hts hown hK hW hR hk hs 2 (by decide) fl_RX0_18 (v := .int (r 9 k)) rfl dX0_asksFor_13 ?_
    refine c_virt (own := RX0) (As := [.int (r 8 k), .int (r 9 k)]) (rest := []) hx hb hml hown hts hK hW (k_X1_fits l hR hi _ _) ml_RX0_49 im_yX1_fits se_yX1_fits in_RX1 cd_yX1_fits 2 (by decide +kernel) ⟨Nat.le_of_ble_eq_true rfl, Nat.le_of_ble_eq_true rfl⟩ (hR.2.2.2.1 _ hi).1 rfl rfl rfl hl.1 rfl (Nat.le_of_ble_eq_true rfl) dX0_asksFor_16 ⟨Nat.le_of_ble_eq_true rfl, Nat.le_of_ble_eq_true rfl⟩ (fun v g2 H1 locs1 hp hW hKT => ?_)
    obtain ⟨rfl, hg⟩ := hp
    rw [hg] at hW
    refine W.eq (g2 := F0 m 19 ls [.int (bI (fitB r i (r 8 k) (r 9 k)))]) rfl ?_
    refine lv_if_eq (tgt := 26) hx hb dX0_asksFor_19 (by decide) (fun c_34 => ?_) (fun c_34 => ?_)
    · skip
      have c_34 := (bI_eq0 _).mp c_34
      refine lv_iconst (v := 0) hx hb dX0_asksFor_26 (by decide) ?_
      exact r_bool hx hb hr hlk hW rfl (by refine ⟨?_, rfl⟩; first | with_reducible rfl | (simp [bI, c_33, c_34]; done) | (simp_all [bI]; done)) (Nat.le_of_ble_eq_true rfl) (Nat.le_of_ble_eq_true rfl) dX0_asksFor_27
    · skip
      have c_34 := bI_ne0 c_34
      refine lv_iconst (v := 1) hx hb dX0_asksFor_22 (by decide) ?_
      refine lv_goto (tgt := 27) hx hb dX0_asksFor_23 (by decide) ?_
      exact r_bool hx hb hr hlk hW rfl (by refine ⟨?_, rfl⟩; first | with_reducible rfl | (simp [bI, c_33, c_34]; done) | (simp_all [bI]; done)) (Nat.le_of_ble_eq_true rfl) (Nat.le_of_ble_eq_true rfl) dX0_asksFor_27

set_option maxHeartbeats 4000000 in
set_option maxRecDepth 100000 in
theorem k_X0_takes (l : Launch) {E : gE} {x xa xk : Nat} {ma pa ka : Nat → Nat} {z : Bool} {r : sg} {g : gm} (hR : HR E x xa xk ma pa ka z r g) {k : Nat} (hk : k < 8) (hs : r 5 k ≠ 0) {i : Nat} (hi : i < nm r) : CM l yX0_takes cX0_takes 2 (some .boolean) ({ frames := 2, cells := 0, slots := 0, locals := 43 }) E [.ref (ka k), .ref (ma i)] g (fun vv g' => vv = some (.int (bI (fitB r i (r 10 k) (r 11 k)))) ∧ g' = g) := by
  refine CM.of (by decide) (Nat.le_of_ble_eq_true rfl) ?_
  intro p e s m below meth c ls hM hK hW hl
  obtain ⟨hx, hb, hr, hml, hown, hts, hlk, hnm⟩ := hM
  have hown : s.vm.findClass RX0 = some m.cls := hown
  have hl : lv_has ls 2 [(0, .ref (ka k)), (1, .ref (ma i))] := hl
  refine lv_aload_n hx hb dX0_takes_0 rfl (lv_at hl 1 rfl) ?_
  refine lv_aload_n hx hb dX0_takes_1 rfl (lv_at hl 0 rfl) ?_
  refine hk_get hx hb hts hown hK hW hR hk hs 3 (by decide) fl_RX0_21 (v := .int (r 10 k)) rfl dX0_takes_2 ?_
  refine lv_aload_n hx hb dX0_takes_5 rfl (lv_at hl 0 rfl) ?_
  refine hk_get hx hb hts hown hK hW hR hk hs 4 (by decide) fl_RX0_24 (v := .int (r 11 k)) rfl dX0_takes_6 ?_
  refine c_virt (own := RX0) (As := [.int (r 10 k), .int (r 11 k)]) (rest := []) hx hb hml hown hts hK hW (k_X1_fits l hR hi _ _) ml_RX0_49 im_yX1_fits se_yX1_fits in_RX1 cd_yX1_fits 2 (by decide +kernel) ⟨Nat.le_of_ble_eq_true rfl, Nat.le_of_ble_eq_true rfl⟩ (hR.2.2.2.1 _ hi).1 rfl rfl rfl hl.1 rfl (Nat.le_of_ble_eq_true rfl) dX0_takes_9 ⟨Nat.le_of_ble_eq_true rfl, Nat.le_of_ble_eq_true rfl⟩ (fun v g2 H1 locs1 hp hW hKT => ?_)
  obtain ⟨rfl, hg⟩ := hp
  rw [hg] at hW
  refine W.eq (g2 := F0 m 12 ls [.int (bI (fitB r i (r 10 k) (r 11 k)))]) rfl ?_
  exact r_bool hx hb hr hlk hW (nb_bI _) (by refine ⟨?_, rfl⟩; first | with_reducible rfl | (simp [bI]; done) | (simp_all [bI]; done)) (Nat.le_of_ble_eq_true rfl) (Nat.le_of_ble_eq_true rfl) dX0_takes_12

set_option maxHeartbeats 4000000 in
set_option maxRecDepth 100000 in
theorem k_X0_canDo (l : Launch) {E : gE} {x xa xk : Nat} {ma pa ka : Nat → Nat} {z : Bool} {r : sg} {g : gm} (hR : HR E x xa xk ma pa ka z r g) {k : Nat} (hk : k < 8) (hs : r 5 k ≠ 0) (j : Int32) : CM l yX0_canDo cX0_canDo 2 (some .boolean) ({ frames := 1, cells := 0, slots := 0, locals := 21 }) E [.ref (ka k), .int (j)] g (fun vv g' => vv = some (.int (bI (canB r k j))) ∧ g' = g) := by
  refine CM.of (by decide) (Nat.le_of_ble_eq_true rfl) ?_
  intro p e s m below meth c ls hM hK hW hl
  obtain ⟨hx, hb, hr, hml, hown, hts, hlk, hnm⟩ := hM
  have hown : s.vm.findClass RX0 = some m.cls := hown
  have hl : lv_has ls 2 [(0, .ref (ka k)), (1, .int (j))] := hl
  refine lv_iload_n hx hb dX0_canDo_0 rfl (lv_at hl 1 rfl) ?_
  refine lv_iconst (v := 2) hx hb dX0_canDo_1 (by decide) ?_
  refine lv_icmp_eq (tgt := 15) hx hb dX0_canDo_2 (by decide) (fun c_35 => ?_) (fun c_35 => ?_)
  · skip
    refine lv_aload_n hx hb dX0_canDo_15 rfl (lv_at hl 0 rfl) ?_
    refine hk_get hx hb hts hown hK hW hR hk hs 4 (by decide) fl_RX0_24 (v := .int (r 11 k)) rfl dX0_canDo_16 ?_
    refine lv_if_le (tgt := 40) hx hb dX0_canDo_19 (by decide) (fun c_36 => ?_) (fun c_36 => ?_)
    · skip
      have c_36 := Int32.not_lt.mpr c_36
      refine lv_iconst (v := 0) hx hb dX0_canDo_40 (by decide) ?_
      exact r_bool hx hb hr hlk hW rfl (by refine ⟨?_, rfl⟩; first | with_reducible rfl | (simp [bI, canB, c_35, c_36]; done) | (simp_all [bI, canB]; done)) (Nat.le_of_ble_eq_true rfl) (Nat.le_of_ble_eq_true rfl) dX0_canDo_41
    · skip
      have c_36 := Int32.not_le.mp c_36
      refine lv_aload_n hx hb dX0_canDo_22 rfl (lv_at hl 0 rfl) ?_
      refine hk_get hx hb hts hown hK hW hR hk hs 3 (by decide) fl_RX0_21 (v := .int (r 10 k)) rfl dX0_canDo_23 ?_
      refine lv_aload_n hx hb dX0_canDo_26 rfl (lv_at hl 0 rfl) ?_
      refine hk_get hx hb hts hown hK hW hR hk hs 4 (by decide) fl_RX0_24 (v := .int (r 11 k)) rfl dX0_canDo_27 ?_
      refine c_statN (own := RX0) (As := [.int (r 10 k), .int (r 11 k)]) (rest := []) hx hb hml hown hts hK hW (k_X2_isOfFigures l _ _) hK.2.2.2.1 st_yX2_isOfFigures in_RX2 cd_yX2_isOfFigures 2 (by decide +kernel) ⟨Nat.le_of_ble_eq_true rfl, Nat.le_of_ble_eq_true rfl⟩ rfl hl.1 rfl (Nat.le_of_ble_eq_true rfl) dX0_canDo_30 ⟨Nat.le_of_ble_eq_true rfl, Nat.le_of_ble_eq_true rfl⟩ (fun v g2 H1 locs1 hp hW hKT => ?_)
      obtain ⟨rfl, hg⟩ := hp
      rw [hg] at hW
      refine W.eq (g2 := F0 m 33 ls [.int (bI (figB (r 10 k) (r 11 k)))]) rfl ?_
      refine lv_if_ne (tgt := 40) hx hb dX0_canDo_33 (by decide) (fun c_37 => ?_) (fun c_37 => ?_)
      · skip
        have c_37 := bI_ne0 c_37
        refine lv_iconst (v := 0) hx hb dX0_canDo_40 (by decide) ?_
        exact r_bool hx hb hr hlk hW rfl (by refine ⟨?_, rfl⟩; first | with_reducible rfl | (simp [bI, canB, c_35, c_36, c_37]; done) | (simp_all [bI, canB]; done)) (Nat.le_of_ble_eq_true rfl) (Nat.le_of_ble_eq_true rfl) dX0_canDo_41
      · skip
        have c_37 := (bI_eq0 _).mp c_37
        refine lv_iconst (v := 1) hx hb dX0_canDo_36 (by decide) ?_
        refine lv_goto (tgt := 41) hx hb dX0_canDo_37 (by decide) ?_
        exact r_bool hx hb hr hlk hW rfl (by refine ⟨?_, rfl⟩; first | with_reducible rfl | (simp [bI, canB, c_35, c_36, c_37]; done) | (simp_all [bI, canB]; done)) (Nat.le_of_ble_eq_true rfl) (Nat.le_of_ble_eq_true rfl) dX0_canDo_41
  · skip
    refine lv_iload_n hx hb dX0_canDo_5 rfl (lv_at hl 1 rfl) ?_
    refine lv_iconst (v := 3) hx hb dX0_canDo_6 (by decide) ?_
    refine lv_icmp_eq (tgt := 15) hx hb dX0_canDo_7 (by decide) (fun c_38 => ?_) (fun c_38 => ?_)
    · skip
      refine lv_aload_n hx hb dX0_canDo_15 rfl (lv_at hl 0 rfl) ?_
      refine hk_get hx hb hts hown hK hW hR hk hs 4 (by decide) fl_RX0_24 (v := .int (r 11 k)) rfl dX0_canDo_16 ?_
      refine lv_if_le (tgt := 40) hx hb dX0_canDo_19 (by decide) (fun c_39 => ?_) (fun c_39 => ?_)
      · skip
        have c_39 := Int32.not_lt.mpr c_39
        refine lv_iconst (v := 0) hx hb dX0_canDo_40 (by decide) ?_
        exact r_bool hx hb hr hlk hW rfl (by refine ⟨?_, rfl⟩; first | with_reducible rfl | (simp [bI, canB, c_35, c_38, c_39]; done) | (simp_all [bI, canB]; done)) (Nat.le_of_ble_eq_true rfl) (Nat.le_of_ble_eq_true rfl) dX0_canDo_41
      · skip
        have c_39 := Int32.not_le.mp c_39
        refine lv_aload_n hx hb dX0_canDo_22 rfl (lv_at hl 0 rfl) ?_
        refine hk_get hx hb hts hown hK hW hR hk hs 3 (by decide) fl_RX0_21 (v := .int (r 10 k)) rfl dX0_canDo_23 ?_
        refine lv_aload_n hx hb dX0_canDo_26 rfl (lv_at hl 0 rfl) ?_
        refine hk_get hx hb hts hown hK hW hR hk hs 4 (by decide) fl_RX0_24 (v := .int (r 11 k)) rfl dX0_canDo_27 ?_
        refine c_statN (own := RX0) (As := [.int (r 10 k), .int (r 11 k)]) (rest := []) hx hb hml hown hts hK hW (k_X2_isOfFigures l _ _) hK.2.2.2.1 st_yX2_isOfFigures in_RX2 cd_yX2_isOfFigures 2 (by decide +kernel) ⟨Nat.le_of_ble_eq_true rfl, Nat.le_of_ble_eq_true rfl⟩ rfl hl.1 rfl (Nat.le_of_ble_eq_true rfl) dX0_canDo_30 ⟨Nat.le_of_ble_eq_true rfl, Nat.le_of_ble_eq_true rfl⟩ (fun v g2 H1 locs1 hp hW hKT => ?_)
        obtain ⟨rfl, hg⟩ := hp
        rw [hg] at hW
        refine W.eq (g2 := F0 m 33 ls [.int (bI (figB (r 10 k) (r 11 k)))]) rfl ?_
        refine lv_if_ne (tgt := 40) hx hb dX0_canDo_33 (by decide) (fun c_40 => ?_) (fun c_40 => ?_)
        · skip
          have c_40 := bI_ne0 c_40
          refine lv_iconst (v := 0) hx hb dX0_canDo_40 (by decide) ?_
          exact r_bool hx hb hr hlk hW rfl (by refine ⟨?_, rfl⟩; first | with_reducible rfl | (simp [bI, canB, c_35, c_38, c_39, c_40]; done) | (simp_all [bI, canB]; done)) (Nat.le_of_ble_eq_true rfl) (Nat.le_of_ble_eq_true rfl) dX0_canDo_41
        · skip
          have c_40 := (bI_eq0 _).mp c_40
          refine lv_iconst (v := 1) hx hb dX0_canDo_36 (by decide) ?_
          refine lv_goto (tgt := 41) hx hb dX0_canDo_37 (by decide) ?_
          exact r_bool hx hb hr hlk hW rfl (by refine ⟨?_, rfl⟩; first | with_reducible rfl | (simp [bI, canB, c_35, c_38, c_39, c_40]; done) | (simp_all [bI, canB]; done)) (Nat.le_of_ble_eq_true rfl) (Nat.le_of_ble_eq_true rfl) dX0_canDo_41
    · skip
      refine lv_iload_n hx hb dX0_canDo_10 rfl (lv_at hl 1 rfl) ?_
      refine lv_iconst (v := 4) hx hb dX0_canDo_11 (by decide) ?_
      refine lv_icmp_ne (tgt := 42) hx hb dX0_canDo_12 (by decide) (fun c_41 => ?_) (fun c_41 => ?_)
      · skip
        refine lv_iload_n hx hb dX0_canDo_42 rfl (lv_at hl 1 rfl) ?_
        refine lv_if_lt (tgt := 55) hx hb dX0_canDo_43 (by decide) (fun c_42 => ?_) (fun c_42 => ?_)
        · skip
          refine lv_iconst (v := 0) hx hb dX0_canDo_55 (by decide) ?_
          exact r_bool hx hb hr hlk hW rfl (by refine ⟨?_, rfl⟩; first | with_reducible rfl | (simp [bI, canB, c_35, c_38, c_41, c_42]; done) | (simp_all [bI, canB]; done)) (Nat.le_of_ble_eq_true rfl) (Nat.le_of_ble_eq_true rfl) dX0_canDo_56
        · skip
          refine lv_iload_n hx hb dX0_canDo_46 rfl (lv_at hl 1 rfl) ?_
          refine lv_iconst (v := 5) hx hb dX0_canDo_47 (by decide) ?_
          refine lv_icmp_gt (tgt := 55) hx hb dX0_canDo_48 (by decide) (fun c_43 => ?_) (fun c_43 => ?_)
          · skip
            refine lv_iconst (v := 0) hx hb dX0_canDo_55 (by decide) ?_
            exact r_bool hx hb hr hlk hW rfl (by refine ⟨?_, rfl⟩; first | with_reducible rfl | (simp [bI, canB, c_35, c_38, c_41, c_42, c_43]; done) | (simp_all [bI, canB]; done)) (Nat.le_of_ble_eq_true rfl) (Nat.le_of_ble_eq_true rfl) dX0_canDo_56
          · skip
            refine lv_iconst (v := 1) hx hb dX0_canDo_51 (by decide) ?_
            refine lv_goto (tgt := 56) hx hb dX0_canDo_52 (by decide) ?_
            exact r_bool hx hb hr hlk hW rfl (by refine ⟨?_, rfl⟩; first | with_reducible rfl | (simp [bI, canB, c_35, c_38, c_41, c_42, c_43]; done) | (simp_all [bI, canB]; done)) (Nat.le_of_ble_eq_true rfl) (Nat.le_of_ble_eq_true rfl) dX0_canDo_56
      · skip
        refine lv_aload_n hx hb dX0_canDo_15 rfl (lv_at hl 0 rfl) ?_
        refine hk_get hx hb hts hown hK hW hR hk hs 4 (by decide) fl_RX0_24 (v := .int (r 11 k)) rfl dX0_canDo_16 ?_
        refine lv_if_le (tgt := 40) hx hb dX0_canDo_19 (by decide) (fun c_44 => ?_) (fun c_44 => ?_)
        · skip
          have c_44 := Int32.not_lt.mpr c_44
          refine lv_iconst (v := 0) hx hb dX0_canDo_40 (by decide) ?_
          exact r_bool hx hb hr hlk hW rfl (by refine ⟨?_, rfl⟩; first | with_reducible rfl | (simp [bI, canB, c_35, c_38, c_41, c_44]; done) | (simp_all [bI, canB]; done)) (Nat.le_of_ble_eq_true rfl) (Nat.le_of_ble_eq_true rfl) dX0_canDo_41
        · skip
          have c_44 := Int32.not_le.mp c_44
          refine lv_aload_n hx hb dX0_canDo_22 rfl (lv_at hl 0 rfl) ?_
          refine hk_get hx hb hts hown hK hW hR hk hs 3 (by decide) fl_RX0_21 (v := .int (r 10 k)) rfl dX0_canDo_23 ?_
          refine lv_aload_n hx hb dX0_canDo_26 rfl (lv_at hl 0 rfl) ?_
          refine hk_get hx hb hts hown hK hW hR hk hs 4 (by decide) fl_RX0_24 (v := .int (r 11 k)) rfl dX0_canDo_27 ?_
          refine c_statN (own := RX0) (As := [.int (r 10 k), .int (r 11 k)]) (rest := []) hx hb hml hown hts hK hW (k_X2_isOfFigures l _ _) hK.2.2.2.1 st_yX2_isOfFigures in_RX2 cd_yX2_isOfFigures 2 (by decide +kernel) ⟨Nat.le_of_ble_eq_true rfl, Nat.le_of_ble_eq_true rfl⟩ rfl hl.1 rfl (Nat.le_of_ble_eq_true rfl) dX0_canDo_30 ⟨Nat.le_of_ble_eq_true rfl, Nat.le_of_ble_eq_true rfl⟩ (fun v g2 H1 locs1 hp hW hKT => ?_)
          obtain ⟨rfl, hg⟩ := hp
          rw [hg] at hW
          refine W.eq (g2 := F0 m 33 ls [.int (bI (figB (r 10 k) (r 11 k)))]) rfl ?_
          refine lv_if_ne (tgt := 40) hx hb dX0_canDo_33 (by decide) (fun c_45 => ?_) (fun c_45 => ?_)
          · skip
            have c_45 := bI_ne0 c_45
            refine lv_iconst (v := 0) hx hb dX0_canDo_40 (by decide) ?_
            exact r_bool hx hb hr hlk hW rfl (by refine ⟨?_, rfl⟩; first | with_reducible rfl | (simp [bI, canB, c_35, c_38, c_41, c_44, c_45]; done) | (simp_all [bI, canB]; done)) (Nat.le_of_ble_eq_true rfl) (Nat.le_of_ble_eq_true rfl) dX0_canDo_41
          · skip
            have c_45 := (bI_eq0 _).mp c_45
            refine lv_iconst (v := 1) hx hb dX0_canDo_36 (by decide) ?_
            refine lv_goto (tgt := 41) hx hb dX0_canDo_37 (by decide) ?_
            exact r_bool hx hb hr hlk hW rfl (by refine ⟨?_, rfl⟩; first | with_reducible rfl | (simp [bI, canB, c_35, c_38, c_41, c_44, c_45]; done) | (simp_all [bI, canB]; done)) (Nat.le_of_ble_eq_true rfl) (Nat.le_of_ble_eq_true rfl) dX0_canDo_41
end
section
def isMb (r : sg) (m : Int32) : Bool := !decide (m < 0) && decide (ix m < nm r)
def isCb (r : sg) (k : Int32) : Bool := !decide (k < 0) && (decide (k < 8) && r 5 (ix k) != 0)
theorem ix_i {m : Int32} (h : ¬ m < 0) : m.toInt = (ix m : Int) := by
  obtain ⟨j, h1, rfl⟩ := nI_of h
  rw [ix, nI_clamp h1, nI_toInt h1]
theorem ix_lt {m : Int32} {n : Nat} (hn : n < 2 ^ 31) (h0 : ¬ m < 0) : ix m < n ↔ m < nI n := by
  rw [Int32.lt_iff_toInt_lt, ix_i h0, nI_toInt hn]
  omega
theorem vin {m : Int32} {n : Nat} (hn : n < 2 ^ 31) (h0 : ¬ m < 0) (h1 : m < nI n) : vp_in m n := fun q => q.elim h0 (fun q => absurd ((ix_lt hn h0).mpr h1) (Nat.not_lt.mpr q))
theorem isMb_hi {r : sg} (h : nm r ≤ 60) {m : Int32} (h1 : ¬ m < 60) : isMb r m = false := by
  by_cases h0 : m < 0
  · simp [isMb, h0]
  · have : ¬ ix m < 60 := fun q => h1 ((ix_lt (by decide) h0).mp q)
    simp only [isMb]
    rw [show decide (ix m < nm r) = false from by simp; omega]
    simp
theorem isMb_lt {r : sg} {m : Int32} (h : isMb r m = true) : ix m < nm r := by
  simp [isMb] at h
  exact h.2
theorem isMb_nn {r : sg} {m : Int32} (h : isMb r m = true) : ¬ m < 0 := by
  simp [isMb] at h
  exact fun q => absurd q (Int32.not_lt.mpr h.1)
theorem isMb_ne {r : sg} {m : Int32} (h : isMb r m = true) : ¬ m = -1 := fun e => absurd (by rw [e]; decide) (isMb_nn h)
theorem isCb_lt {r : sg} {k : Int32} (h : isCb r k = true) : ix k < 8 := by
  simp [isCb] at h
  exact (ix_lt (n := 8) (by decide) (Int32.not_lt.mpr h.1)).mpr h.2.1
theorem isCb_nn {r : sg} {k : Int32} (h : isCb r k = true) : ¬ k < 0 := by
  simp [isCb] at h
  exact fun q => absurd q (Int32.not_lt.mpr h.1)
theorem isCb_s {r : sg} {k : Int32} (h : isCb r k = true) : r 5 (ix k) ≠ 0 := by
  simp [isCb] at h
  exact h.2.2
theorem hasP_lt {r : sg} {i : Nat} {j : Int32} (h : hasP r i j = true) : ¬ j < 0 ∧ ix j < ix (r 3 i) := by
  simp [hasP] at h
  obtain ⟨-, h1, h2⟩ := h
  have h1' : ¬ j < 0 := fun q => absurd q (Int32.not_lt.mpr h1)
  refine ⟨h1', ?_⟩
  have h3 : ¬ r 3 i < 0 := fun q => by
    rw [Int32.lt_iff_toInt_lt] at q h2 h1'
    simp at q h1'
    omega
  rw [Int32.lt_iff_toInt_lt, ix_i h1', ix_i h3] at h2
  omega
theorem hasN_lt {r : sg} {i : Nat} {j : Int32} (h : hasN r i j = true) : ¬ j < 0 ∧ ix j < ix (r 3 i) := by
  simp [hasN] at h
  obtain ⟨-, h1, h2⟩ := h
  have h1' : ¬ j < 0 := fun q => absurd q (Int32.not_lt.mpr h1)
  refine ⟨h1', ?_⟩
  have h3 : ¬ r 3 i < 0 := fun q => by
    rw [Int32.lt_iff_toInt_lt] at q h2 h1'
    simp at q h1'
    omega
  rw [Int32.lt_iff_toInt_lt, ix_i h1', ix_i h3] at h2
  omega

set_option maxHeartbeats 4000000 in
set_option maxRecDepth 100000 in
theorem k_X2_messageAt (l : Launch) {E : gE} {x xa xk : Nat} {ma pa ka : Nat → Nat} {z : Bool} {r : sg} {g : gm} (hR : HR E x xa xk ma pa ka z r g) (mm : Int32) : CM l yX2_messageAt cX2_messageAt 2 (some (.object "PostHall$Message")) ({ frames := 0, cells := 0, slots := 0, locals := 0 }) E [.ref (x), .int (mm)] g (fun vv g' => ((isMb r mm = false ∧ vv = some .null) ∨ (isMb r mm = true ∧ vv = some (.ref (ma (ix mm))))) ∧ g' = g) := by
  refine CM.of (by decide) (Nat.le_of_ble_eq_true rfl) ?_
  intro p e s m below meth c ls hM hK hW hl
  obtain ⟨hx, hb, hr, hml, hown, hts, hlk, hnm⟩ := hM
  have hown : s.vm.findClass RX2 = some m.cls := hown
  have hl : lv_has ls 2 [(0, .ref (x)), (1, .int (mm))] := hl
  refine lv_iload_n hx hb dX2_messageAt_0 rfl (lv_at hl 1 rfl) ?_
  refine lv_if_lt (tgt := 19) hx hb dX2_messageAt_1 (by decide) (fun c_46 => ?_) (fun c_46 => ?_)
  · skip
    refine lv_null hx hb dX2_messageAt_19 ?_
    exact r_ref (v := none) hx hb hr hlk hW (by exact ⟨Or.inl ⟨by first | (simp [isMb, c_46]; done) | exact isMb_hi hR.2.2.2.2.2.2 c_46, rfl⟩, rfl⟩) (Nat.le_of_ble_eq_true rfl) (Nat.le_of_ble_eq_true rfl) dX2_messageAt_20
  · skip
    refine lv_iload_n hx hb dX2_messageAt_4 rfl (lv_at hl 1 rfl) ?_
    refine lv_bipush (v := 60) hx hb dX2_messageAt_5 (by decide) ?_
    refine lv_icmp_ge (tgt := 19) hx hb dX2_messageAt_7 (by decide) (fun c_47 => ?_) (fun c_47 => ?_)
    · skip
      have c_47 := Int32.not_lt.mpr c_47
      refine lv_null hx hb dX2_messageAt_19 ?_
      exact r_ref (v := none) hx hb hr hlk hW (by exact ⟨Or.inl ⟨by first | (simp [isMb, c_47]; done) | exact isMb_hi hR.2.2.2.2.2.2 c_47, rfl⟩, rfl⟩) (Nat.le_of_ble_eq_true rfl) (Nat.le_of_ble_eq_true rfl) dX2_messageAt_20
    · skip
      have c_47 := Int32.not_le.mp c_47
      refine lv_aload_n hx hb dX2_messageAt_10 rfl (lv_at hl 0 rfl) ?_
      refine h_get hx hb hts hown hK hW hR 0 (by decide) fl_RX2_11 (v := .ref (xa)) rfl dX2_messageAt_11 ?_
      refine lv_iload_n hx hb dX2_messageAt_14 rfl (lv_at hl 1 rfl) ?_
      refine g_aldM hx hb hK hW hR.2.1 (vin (n := 60) (by decide) c_46 c_47) dX2_messageAt_15 ?_
      by_cases hq : ix mm < nm r
      · skip
        rw [show mrw r ma (Int32.toNatClampNeg mm) = some (ma (ix mm)) from if_pos hq]
        refine lv_goto (tgt := 20) hx hb dX2_messageAt_16 (by decide) ?_
        exact r_ref (v := some (ma (ix mm))) hx hb hr hlk hW (by exact ⟨Or.inr ⟨by simp [isMb, c_46, c_47, hq], rfl⟩, rfl⟩) (Nat.le_of_ble_eq_true rfl) (Nat.le_of_ble_eq_true rfl) dX2_messageAt_20
      · skip
        rw [show mrw r ma (Int32.toNatClampNeg mm) = none from if_neg hq]
        refine lv_goto (tgt := 20) hx hb dX2_messageAt_16 (by decide) ?_
        exact r_ref (v := none) hx hb hr hlk hW (by exact ⟨Or.inl ⟨by simp [isMb, c_46, c_47, hq], rfl⟩, rfl⟩) (Nat.le_of_ble_eq_true rfl) (Nat.le_of_ble_eq_true rfl) dX2_messageAt_20

set_option maxHeartbeats 4000000 in
set_option maxRecDepth 100000 in
theorem k_X2_counterAt (l : Launch) {E : gE} {x xa xk : Nat} {ma pa ka : Nat → Nat} {z : Bool} {r : sg} {g : gm} (hR : HR E x xa xk ma pa ka z r g) (mm : Int32) : CM l yX2_counterAt cX2_counterAt 2 (some (.object "PostHall$Counter")) ({ frames := 0, cells := 0, slots := 0, locals := 0 }) E [.ref (x), .int (mm)] g (fun vv g' => ((isCb r mm = false ∧ vv = some .null) ∨ (isCb r mm = true ∧ vv = some (.ref (ka (ix mm))))) ∧ g' = g) := by
  refine CM.of (by decide) (Nat.le_of_ble_eq_true rfl) ?_
  intro p e s m below meth c ls hM hK hW hl
  obtain ⟨hx, hb, hr, hml, hown, hts, hlk, hnm⟩ := hM
  have hown : s.vm.findClass RX2 = some m.cls := hown
  have hl : lv_has ls 2 [(0, .ref (x)), (1, .int (mm))] := hl
  refine lv_iload_n hx hb dX2_counterAt_0 rfl (lv_at hl 1 rfl) ?_
  refine lv_if_lt (tgt := 19) hx hb dX2_counterAt_1 (by decide) (fun c_48 => ?_) (fun c_48 => ?_)
  · skip
    refine lv_null hx hb dX2_counterAt_19 ?_
    exact r_ref (v := none) hx hb hr hlk hW (by exact ⟨Or.inl ⟨by simp [isCb, c_48], rfl⟩, rfl⟩) (Nat.le_of_ble_eq_true rfl) (Nat.le_of_ble_eq_true rfl) dX2_counterAt_20
  · skip
    refine lv_iload_n hx hb dX2_counterAt_4 rfl (lv_at hl 1 rfl) ?_
    refine lv_bipush (v := 8) hx hb dX2_counterAt_5 (by decide) ?_
    refine lv_icmp_ge (tgt := 19) hx hb dX2_counterAt_7 (by decide) (fun c_49 => ?_) (fun c_49 => ?_)
    · skip
      have c_49 := Int32.not_lt.mpr c_49
      refine lv_null hx hb dX2_counterAt_19 ?_
      exact r_ref (v := none) hx hb hr hlk hW (by exact ⟨Or.inl ⟨by simp [isCb, c_48, c_49], rfl⟩, rfl⟩) (Nat.le_of_ble_eq_true rfl) (Nat.le_of_ble_eq_true rfl) dX2_counterAt_20
    · skip
      have c_49 := Int32.not_le.mp c_49
      refine lv_aload_n hx hb dX2_counterAt_10 rfl (lv_at hl 0 rfl) ?_
      refine h_get hx hb hts hown hK hW hR 1 (by decide) fl_RX2_17 (v := .ref (xk)) rfl dX2_counterAt_11 ?_
      refine lv_iload_n hx hb dX2_counterAt_14 rfl (lv_at hl 1 rfl) ?_
      refine g_aldC hx hb hK hW hR.2.2.1 (vin (n := 8) (by decide) c_48 c_49) dX2_counterAt_15 ?_
      by_cases hq : r 5 (ix mm) = 0
      · skip
        rw [show krw r ka (Int32.toNatClampNeg mm) = none from if_pos hq]
        refine lv_goto (tgt := 20) hx hb dX2_counterAt_16 (by decide) ?_
        exact r_ref (v := none) hx hb hr hlk hW (by exact ⟨Or.inl ⟨by simp [isCb, c_48, c_49, hq], rfl⟩, rfl⟩) (Nat.le_of_ble_eq_true rfl) (Nat.le_of_ble_eq_true rfl) dX2_counterAt_20
      · skip
        rw [show krw r ka (Int32.toNatClampNeg mm) = some (ka (ix mm)) from if_neg hq]
        refine lv_goto (tgt := 20) hx hb dX2_counterAt_16 (by decide) ?_
        exact r_ref (v := some (ka (ix mm))) hx hb hr hlk hW (by exact ⟨Or.inr ⟨by simp [isCb, c_48, c_49, hq], rfl⟩, rfl⟩) (Nat.le_of_ble_eq_true rfl) (Nat.le_of_ble_eq_true rfl) dX2_counterAt_20

def Fplaced (r : sg) (m i : Int32) : Int32 := if isMb r m then (if hasP r (ix m) i then r 4 (8 * ix m + ix i) else -5) else -2
def Fnumber (r : sg) (m i : Int32) : Int32 := if isMb r m then (if r 1 (ix m) = 0 then (if i = -1 then r 2 (ix m) else 0) else if hasN r (ix m) i then r 4 (8 * ix m + ix i) else 0) else 0
def Fis (r : sg) (m b d : Int32) : Int32 := if isMb r m then (if kindB b d then bI (fitB r (ix m) b d) else -2) else -2
def Fabout (r : sg) (m w : Int32) : Int32 := if isMb r m then (if w = 0 then r 0 (ix m) else if w = 1 then r 1 (ix m) else if w = 2 then r 3 (ix m) else -2) else -2
def Ftold (z : Bool) (r : sg) (w : Int32) : Int32 := if w = 0 then tal z r 2 else if w = 1 then tal z r 3 else if w = 2 then tal z r 4 else if w = 3 then tal z r 5 else if w = 4 then tal z r 6 else -2
def Fof (r : sg) (k w : Int32) : Int32 := if isCb r k then (if w = 0 then r 13 (ix k) else if w = 1 then r 15 (ix k) else if w = 2 then r 16 (ix k) else if w = 3 then asI (r 6 (ix k)) else if w = 4 then r 14 (ix k) else if w = 5 then r 12 (ix k) else if w = 6 then asI (r 7 (ix k)) else 0) else 0
def Fcount (r : sg) (w : Int32) : Int32 := if w = 0 then r 17 0 else if w = 1 then nsetN r 8 else if w = 2 then r 17 1 else -2

set_option maxHeartbeats 4000000 in
set_option maxRecDepth 100000 in
theorem k_X2_placed (l : Launch) {E : gE} {x xa xk : Nat} {ma pa ka : Nat → Nat} {z : Bool} {r : sg} {g : gm} (hR : HR E x xa xk ma pa ka z r g) (a b : Int32) : CM l yX2_placed cX2_placed 4 (some .int) ({ frames := 1, cells := 0, slots := 0, locals := 21 }) E [.ref (x), .int (a), .int (b)] g (fun vv g' => vv = some (.int (Fplaced r a b)) ∧ g' = g) := by
  refine CM.of (by decide) (Nat.le_of_ble_eq_true rfl) ?_
  intro p e s m below meth c ls hM hK hW hl
  obtain ⟨hx, hb, hr, hml, hown, hts, hlk, hnm⟩ := hM
  have hown : s.vm.findClass RX2 = some m.cls := hown
  have hl : lv_has ls 4 [(0, .ref (x)), (1, .int (a)), (2, .int (b))] := hl
  refine lv_aload_n hx hb dX2_placed_0 rfl (lv_at hl 0 rfl) ?_
  refine lv_iload_n hx hb dX2_placed_1 rfl (lv_at hl 1 rfl) ?_
  refine c_virt (own := RX2) (As := [.int (a)]) (rest := []) hx hb hml hown hts hK hW (k_X2_messageAt l hR (a)) ml_RX2_33 im_yX2_messageAt se_yX2_messageAt in_RX2 cd_yX2_messageAt 1 (by decide +kernel) ⟨Nat.le_of_ble_eq_true rfl, Nat.le_of_ble_eq_true rfl⟩ hR.1 rfl rfl rfl hl.1 rfl (Nat.le_of_ble_eq_true rfl) dX2_placed_2 ⟨Nat.le_of_ble_eq_true rfl, Nat.le_of_ble_eq_true rfl⟩ (fun v g2 H1 locs1 hp hW hKT => ?_)
  obtain ⟨hp, hg⟩ := hp
  rw [hg] at hW
  rcases hp with ⟨em_50, rfl⟩ | ⟨em_51, rfl⟩
  · skip
    refine W.eq (g2 := F0 m 5 ls [.null]) rfl ?_
    refine lv_astore_nN (lv' := [(3, .null), (0, .ref (x)), (1, .int (a)), (2, .int (b))]) hx hb dX2_placed_5 rfl hl (by decide) rfl (fun ls hl => ?_)
    refine lv_aload_nN hx hb dX2_placed_6 rfl (lv_at hl 0 rfl) ?_
    refine lv_ifnonnullN hx hb dX2_placed_7 ?_
    refine lv_bipush (v := -2) hx hb dX2_placed_10 (by decide) ?_
    exact r_int hx hb hr hlk hW (by refine ⟨?_, rfl⟩; first | with_reducible rfl | (simp [bI, Fplaced, em_50]; done) | (simp_all [bI, Fplaced]; done)) (Nat.le_of_ble_eq_true rfl) (Nat.le_of_ble_eq_true rfl) dX2_placed_12
  · skip
    have hi_52 := isMb_lt em_51
    have nhi_52 := isMb_ne em_51
    refine W.eq (g2 := F0 m 5 ls [.ref (ma (ix (a)))]) rfl ?_
    refine lv_astore_n (lv' := [(3, .ref (ma (ix (a)))), (0, .ref (x)), (1, .int (a)), (2, .int (b))]) hx hb dX2_placed_5 rfl hl (by decide) rfl (fun ls hl => ?_)
    refine lv_aload_n hx hb dX2_placed_6 rfl (lv_at hl 0 rfl) ?_
    refine lv_ifnonnull (tgt := 13) hx hb dX2_placed_7 (by decide) ?_
    refine lv_aload_n hx hb dX2_placed_13 rfl (lv_at hl 0 rfl) ?_
    refine lv_iload_n hx hb dX2_placed_14 rfl (lv_at hl 3 rfl) ?_
    refine c_virt (own := RX2) (As := [.int (b)]) (rest := []) hx hb hml hown hts hK hW (k_X1_hasMessagePlace l hR hi_52 _) ml_RX2_37 im_yX1_hasMessagePlace se_yX1_hasMessagePlace in_RX1 cd_yX1_hasMessagePlace 1 (by decide +kernel) ⟨Nat.le_of_ble_eq_true rfl, Nat.le_of_ble_eq_true rfl⟩ (hR.2.2.2.1 _ hi_52).1 rfl rfl rfl hl.1 rfl (Nat.le_of_ble_eq_true rfl) dX2_placed_15 ⟨Nat.le_of_ble_eq_true rfl, Nat.le_of_ble_eq_true rfl⟩ (fun v g2 H1 locs1 hp hW hKT => ?_)
    obtain ⟨rfl, hg⟩ := hp
    rw [hg] at hW
    refine W.eq (g2 := F0 m 18 ls [.int (bI (hasP r (ix (a)) (b)))]) rfl ?_
    refine lv_if_eq (tgt := 30) hx hb dX2_placed_18 (by decide) (fun c_53 => ?_) (fun c_53 => ?_)
    · skip
      have c_53 := (bI_eq0 _).mp c_53
      refine lv_bipush (v := -5) hx hb dX2_placed_30 (by decide) ?_
      exact r_int hx hb hr hlk hW (by refine ⟨?_, rfl⟩; first | with_reducible rfl | (simp [bI, Fplaced, em_51, nhi_52, c_53]; done) | (simp_all [bI, Fplaced]; done)) (Nat.le_of_ble_eq_true rfl) (Nat.le_of_ble_eq_true rfl) dX2_placed_32
    · skip
      have c_53 := bI_ne0 c_53
      refine lv_aload_n hx hb dX2_placed_21 rfl (lv_at hl 0 rfl) ?_
      refine hm_get hx hb hts hown hK hW hR hi_52 4 (by decide) fl_RX2_45 (v := .ref (pa (ix (a)))) rfl dX2_placed_22 ?_
      refine lv_iload_n hx hb dX2_placed_25 rfl (lv_at hl 3 rfl) ?_
      refine hp_ald hx hb hK hW hR hi_52 (hasP_lt c_53).1 (hasP_lt c_53).2 dX2_placed_26 ?_
      refine lv_goto (tgt := 32) hx hb dX2_placed_27 (by decide) ?_
      exact r_int hx hb hr hlk hW (by refine ⟨?_, rfl⟩; first | with_reducible rfl | (simp [bI, Fplaced, em_51, nhi_52, c_53]; done) | (simp_all [bI, Fplaced]; done)) (Nat.le_of_ble_eq_true rfl) (Nat.le_of_ble_eq_true rfl) dX2_placed_32

set_option maxHeartbeats 4000000 in
set_option maxRecDepth 100000 in
theorem k_X2_number (l : Launch) {E : gE} {x xa xk : Nat} {ma pa ka : Nat → Nat} {z : Bool} {r : sg} {g : gm} (hR : HR E x xa xk ma pa ka z r g) (a b : Int32) : CM l yX2_number cX2_number 4 (some .int) ({ frames := 1, cells := 0, slots := 0, locals := 21 }) E [.ref (x), .int (a), .int (b)] g (fun vv g' => vv = some (.int (Fnumber r a b)) ∧ g' = g) := by
  refine CM.of (by decide) (Nat.le_of_ble_eq_true rfl) ?_
  intro p e s m below meth c ls hM hK hW hl
  obtain ⟨hx, hb, hr, hml, hown, hts, hlk, hnm⟩ := hM
  have hown : s.vm.findClass RX2 = some m.cls := hown
  have hl : lv_has ls 4 [(0, .ref (x)), (1, .int (a)), (2, .int (b))] := hl
  refine lv_aload_n hx hb dX2_number_0 rfl (lv_at hl 0 rfl) ?_
  refine lv_iload_n hx hb dX2_number_1 rfl (lv_at hl 1 rfl) ?_
  refine c_virt (own := RX2) (As := [.int (a)]) (rest := []) hx hb hml hown hts hK hW (k_X2_messageAt l hR (a)) ml_RX2_33 im_yX2_messageAt se_yX2_messageAt in_RX2 cd_yX2_messageAt 1 (by decide +kernel) ⟨Nat.le_of_ble_eq_true rfl, Nat.le_of_ble_eq_true rfl⟩ hR.1 rfl rfl rfl hl.1 rfl (Nat.le_of_ble_eq_true rfl) dX2_number_2 ⟨Nat.le_of_ble_eq_true rfl, Nat.le_of_ble_eq_true rfl⟩ (fun v g2 H1 locs1 hp hW hKT => ?_)
  obtain ⟨hp, hg⟩ := hp
  rw [hg] at hW
  rcases hp with ⟨em_54, rfl⟩ | ⟨em_55, rfl⟩
  · skip
    refine W.eq (g2 := F0 m 5 ls [.null]) rfl ?_
    refine lv_astore_nN (lv' := [(3, .null), (0, .ref (x)), (1, .int (a)), (2, .int (b))]) hx hb dX2_number_5 rfl hl (by decide) rfl (fun ls hl => ?_)
    refine lv_aload_nN hx hb dX2_number_6 rfl (lv_at hl 0 rfl) ?_
    refine lv_ifnonnullN hx hb dX2_number_7 ?_
    refine lv_iconst (v := 0) hx hb dX2_number_10 (by decide) ?_
    exact r_int hx hb hr hlk hW (by refine ⟨?_, rfl⟩; first | with_reducible rfl | (simp [bI, Fnumber, em_54]; done) | (simp_all [bI, Fnumber]; done)) (Nat.le_of_ble_eq_true rfl) (Nat.le_of_ble_eq_true rfl) dX2_number_11
  · skip
    have hi_56 := isMb_lt em_55
    have nhi_56 := isMb_ne em_55
    refine W.eq (g2 := F0 m 5 ls [.ref (ma (ix (a)))]) rfl ?_
    refine lv_astore_n (lv' := [(3, .ref (ma (ix (a)))), (0, .ref (x)), (1, .int (a)), (2, .int (b))]) hx hb dX2_number_5 rfl hl (by decide) rfl (fun ls hl => ?_)
    refine lv_aload_n hx hb dX2_number_6 rfl (lv_at hl 0 rfl) ?_
    refine lv_ifnonnull (tgt := 12) hx hb dX2_number_7 (by decide) ?_
    refine lv_aload_n hx hb dX2_number_12 rfl (lv_at hl 0 rfl) ?_
    refine hm_get hx hb hts hown hK hW hR hi_56 2 (by decide) fl_RX2_56 (v := .int (r 1 (ix (a)))) rfl dX2_number_13 ?_
    refine lv_if_ne (tgt := 33) hx hb dX2_number_16 (by decide) (fun c_57 => ?_) (fun c_57 => ?_)
    · skip
      refine lv_aload_n hx hb dX2_number_33 rfl (lv_at hl 0 rfl) ?_
      refine lv_iload_n hx hb dX2_number_34 rfl (lv_at hl 3 rfl) ?_
      refine c_virt (own := RX2) (As := [.int (b)]) (rest := []) hx hb hml hown hts hK hW (k_X1_hasNumber l hR hi_56 _) ml_RX2_49 im_yX1_hasNumber se_yX1_hasNumber in_RX1 cd_yX1_hasNumber 1 (by decide +kernel) ⟨Nat.le_of_ble_eq_true rfl, Nat.le_of_ble_eq_true rfl⟩ (hR.2.2.2.1 _ hi_56).1 rfl rfl rfl hl.1 rfl (Nat.le_of_ble_eq_true rfl) dX2_number_35 ⟨Nat.le_of_ble_eq_true rfl, Nat.le_of_ble_eq_true rfl⟩ (fun v g2 H1 locs1 hp hW hKT => ?_)
      obtain ⟨rfl, hg⟩ := hp
      rw [hg] at hW
      refine W.eq (g2 := F0 m 38 ls [.int (bI (hasN r (ix (a)) (b)))]) rfl ?_
      refine lv_if_eq (tgt := 50) hx hb dX2_number_38 (by decide) (fun c_58 => ?_) (fun c_58 => ?_)
      · skip
        have c_58 := (bI_eq0 _).mp c_58
        refine lv_iconst (v := 0) hx hb dX2_number_50 (by decide) ?_
        exact r_int hx hb hr hlk hW (by refine ⟨?_, rfl⟩; first | with_reducible rfl | (simp [bI, Fnumber, em_55, nhi_56, c_57, c_58]; done) | (simp_all [bI, Fnumber]; done)) (Nat.le_of_ble_eq_true rfl) (Nat.le_of_ble_eq_true rfl) dX2_number_51
      · skip
        have c_58 := bI_ne0 c_58
        refine lv_aload_n hx hb dX2_number_41 rfl (lv_at hl 0 rfl) ?_
        refine hm_get hx hb hts hown hK hW hR hi_56 4 (by decide) fl_RX2_45 (v := .ref (pa (ix (a)))) rfl dX2_number_42 ?_
        refine lv_iload_n hx hb dX2_number_45 rfl (lv_at hl 3 rfl) ?_
        refine hp_ald hx hb hK hW hR hi_56 (hasN_lt c_58).1 (hasN_lt c_58).2 dX2_number_46 ?_
        refine lv_goto (tgt := 51) hx hb dX2_number_47 (by decide) ?_
        exact r_int hx hb hr hlk hW (by refine ⟨?_, rfl⟩; first | with_reducible rfl | (simp [bI, Fnumber, em_55, nhi_56, c_57, c_58]; done) | (simp_all [bI, Fnumber]; done)) (Nat.le_of_ble_eq_true rfl) (Nat.le_of_ble_eq_true rfl) dX2_number_51
    · skip
      refine lv_iload_n hx hb dX2_number_19 rfl (lv_at hl 3 rfl) ?_
      refine lv_iconst (v := -1) hx hb dX2_number_20 (by decide) ?_
      refine lv_icmp_ne (tgt := 31) hx hb dX2_number_21 (by decide) (fun c_59 => ?_) (fun c_59 => ?_)
      · skip
        refine lv_iconst (v := 0) hx hb dX2_number_31 (by decide) ?_
        exact r_int hx hb hr hlk hW (by refine ⟨?_, rfl⟩; first | with_reducible rfl | (simp [bI, Fnumber, em_55, nhi_56, c_57, c_59]; done) | (simp_all [bI, Fnumber]; done)) (Nat.le_of_ble_eq_true rfl) (Nat.le_of_ble_eq_true rfl) dX2_number_32
      · skip
        refine lv_aload_n hx hb dX2_number_24 rfl (lv_at hl 0 rfl) ?_
        refine hm_get hx hb hts hown hK hW hR hi_56 5 (by decide) fl_RX2_59 (v := .int (r 2 (ix (a)))) rfl dX2_number_25 ?_
        refine lv_goto (tgt := 32) hx hb dX2_number_28 (by decide) ?_
        exact r_int hx hb hr hlk hW (by refine ⟨?_, rfl⟩; first | with_reducible rfl | (simp [bI, Fnumber, em_55, nhi_56, c_57, c_59]; done) | (simp_all [bI, Fnumber]; done)) (Nat.le_of_ble_eq_true rfl) (Nat.le_of_ble_eq_true rfl) dX2_number_32

set_option maxHeartbeats 4000000 in
set_option maxRecDepth 100000 in
theorem k_X2_is (l : Launch) {E : gE} {x xa xk : Nat} {ma pa ka : Nat → Nat} {z : Bool} {r : sg} {g : gm} (hR : HR E x xa xk ma pa ka z r g) (a b d : Int32) : CM l yX2_is cX2_is 5 (some .int) ({ frames := 2, cells := 0, slots := 0, locals := 43 }) E [.ref (x), .int (a), .int (b), .int (d)] g (fun vv g' => vv = some (.int (Fis r a b d)) ∧ g' = g) := by
  refine CM.of (by decide) (Nat.le_of_ble_eq_true rfl) ?_
  intro p e s m below meth c ls hM hK hW hl
  obtain ⟨hx, hb, hr, hml, hown, hts, hlk, hnm⟩ := hM
  have hown : s.vm.findClass RX2 = some m.cls := hown
  have hl : lv_has ls 5 [(0, .ref (x)), (1, .int (a)), (2, .int (b)), (3, .int (d))] := hl
  refine lv_aload_n hx hb dX2_is_0 rfl (lv_at hl 0 rfl) ?_
  refine lv_iload_n hx hb dX2_is_1 rfl (lv_at hl 1 rfl) ?_
  refine c_virt (own := RX2) (As := [.int (a)]) (rest := []) hx hb hml hown hts hK hW (k_X2_messageAt l hR (a)) ml_RX2_33 im_yX2_messageAt se_yX2_messageAt in_RX2 cd_yX2_messageAt 1 (by decide +kernel) ⟨Nat.le_of_ble_eq_true rfl, Nat.le_of_ble_eq_true rfl⟩ hR.1 rfl rfl rfl hl.1 rfl (Nat.le_of_ble_eq_true rfl) dX2_is_2 ⟨Nat.le_of_ble_eq_true rfl, Nat.le_of_ble_eq_true rfl⟩ (fun v g2 H1 locs1 hp hW hKT => ?_)
  obtain ⟨hp, hg⟩ := hp
  rw [hg] at hW
  rcases hp with ⟨em_60, rfl⟩ | ⟨em_61, rfl⟩
  · skip
    refine W.eq (g2 := F0 m 5 ls [.null]) rfl ?_
    refine lv_astoreN (lv' := [(4, .null), (0, .ref (x)), (1, .int (a)), (2, .int (b)), (3, .int (d))]) hx hb dX2_is_5 hl (by decide) rfl (fun ls hl => ?_)
    refine lv_aloadN hx hb dX2_is_7 (lv_at hl 0 rfl) ?_
    refine lv_ifnullN (tgt := 20) hx hb dX2_is_9 (by decide) ?_
    refine lv_bipush (v := -2) hx hb dX2_is_20 (by decide) ?_
    exact r_int hx hb hr hlk hW (by refine ⟨?_, rfl⟩; first | with_reducible rfl | (simp [Fis, asI_bI, em_60]; done) | (simp_all [Fis, asI_bI]; done)) (Nat.le_of_ble_eq_true rfl) (Nat.le_of_ble_eq_true rfl) dX2_is_22
  · skip
    have hi_62 := isMb_lt em_61
    have nhi_62 := isMb_ne em_61
    refine W.eq (g2 := F0 m 5 ls [.ref (ma (ix (a)))]) rfl ?_
    refine lv_astore (lv' := [(4, .ref (ma (ix (a)))), (0, .ref (x)), (1, .int (a)), (2, .int (b)), (3, .int (d))]) hx hb dX2_is_5 hl (by decide) rfl (fun ls hl => ?_)
    refine lv_aload hx hb dX2_is_7 (lv_at hl 0 rfl) ?_
    refine lv_ifnull hx hb dX2_is_9 ?_
    refine lv_iload_n hx hb dX2_is_12 rfl (lv_at hl 3 rfl) ?_
    refine lv_iload_n hx hb dX2_is_13 rfl (lv_at hl 4 rfl) ?_
    refine c_stat (own := RX2) (As := [.int (b), .int (d)]) (rest := []) hx hb hml hown hts hK hW (k_X2_isKind l _ _) ml_RX2_29 st_yX2_isKind in_RX2 cd_yX2_isKind 2 (by decide +kernel) ⟨Nat.le_of_ble_eq_true rfl, Nat.le_of_ble_eq_true rfl⟩ rfl hl.1 rfl (Nat.le_of_ble_eq_true rfl) dX2_is_14 ⟨Nat.le_of_ble_eq_true rfl, Nat.le_of_ble_eq_true rfl⟩ (fun v g2 H1 locs1 hp hW hKT => ?_)
    obtain ⟨rfl, hg⟩ := hp
    rw [hg] at hW
    refine W.eq (g2 := F0 m 17 ls [.int (bI (kindB (b) (d)))]) rfl ?_
    refine lv_if_ne (tgt := 23) hx hb dX2_is_17 (by decide) (fun c_63 => ?_) (fun c_63 => ?_)
    · skip
      have c_63 := bI_ne0 c_63
      refine lv_aload hx hb dX2_is_23 (lv_at hl 0 rfl) ?_
      refine lv_iload_n hx hb dX2_is_25 rfl (lv_at hl 3 rfl) ?_
      refine lv_iload_n hx hb dX2_is_26 rfl (lv_at hl 4 rfl) ?_
      refine c_virt (own := RX2) (As := [.int (b), .int (d)]) (rest := []) hx hb hml hown hts hK hW (k_X1_fits l hR hi_62 _ _) ml_RX2_62 im_yX1_fits se_yX1_fits in_RX1 cd_yX1_fits 2 (by decide +kernel) ⟨Nat.le_of_ble_eq_true rfl, Nat.le_of_ble_eq_true rfl⟩ (hR.2.2.2.1 _ hi_62).1 rfl rfl rfl hl.1 rfl (Nat.le_of_ble_eq_true rfl) dX2_is_27 ⟨Nat.le_of_ble_eq_true rfl, Nat.le_of_ble_eq_true rfl⟩ (fun v g2 H1 locs1 hp hW hKT => ?_)
      obtain ⟨rfl, hg⟩ := hp
      rw [hg] at hW
      refine W.eq (g2 := F0 m 30 ls [.int (bI (fitB r (ix (a)) (b) (d)))]) rfl ?_
      refine c_stat (own := RX2) (As := [.int (bI (fitB r (ix (a)) (b) (d)))]) (rest := []) hx hb hml hown hts hK hW (k_X2_asInt l _) ml_RX2_65 st_yX2_asInt in_RX2 cd_yX2_asInt 1 (by decide +kernel) ⟨Nat.le_of_ble_eq_true rfl, Nat.le_of_ble_eq_true rfl⟩ rfl hl.1 rfl (Nat.le_of_ble_eq_true rfl) dX2_is_30 ⟨Nat.le_of_ble_eq_true rfl, Nat.le_of_ble_eq_true rfl⟩ (fun v g2 H1 locs1 hp hW hKT => ?_)
      obtain ⟨rfl, hg⟩ := hp
      rw [hg] at hW
      refine W.eq (g2 := F0 m 33 ls [.int (asI (bI (fitB r (ix (a)) (b) (d))))]) rfl ?_
      exact r_int hx hb hr hlk hW (by refine ⟨?_, rfl⟩; first | with_reducible rfl | (simp [Fis, asI_bI, em_61, nhi_62, c_63]; done) | (simp_all [Fis, asI_bI]; done)) (Nat.le_of_ble_eq_true rfl) (Nat.le_of_ble_eq_true rfl) dX2_is_33
    · skip
      have c_63 := (bI_eq0 _).mp c_63
      refine lv_bipush (v := -2) hx hb dX2_is_20 (by decide) ?_
      exact r_int hx hb hr hlk hW (by refine ⟨?_, rfl⟩; first | with_reducible rfl | (simp [Fis, asI_bI, em_61, nhi_62, c_63]; done) | (simp_all [Fis, asI_bI]; done)) (Nat.le_of_ble_eq_true rfl) (Nat.le_of_ble_eq_true rfl) dX2_is_22

set_option maxHeartbeats 4000000 in
set_option maxRecDepth 100000 in
theorem k_X2_about (l : Launch) {E : gE} {x xa xk : Nat} {ma pa ka : Nat → Nat} {z : Bool} {r : sg} {g : gm} (hR : HR E x xa xk ma pa ka z r g) (a b : Int32) : CM l yX2_about cX2_about 4 (some .int) ({ frames := 1, cells := 0, slots := 0, locals := 21 }) E [.ref (x), .int (a), .int (b)] g (fun vv g' => vv = some (.int (Fabout r a b)) ∧ g' = g) := by
  refine CM.of (by decide) (Nat.le_of_ble_eq_true rfl) ?_
  intro p e s m below meth c ls hM hK hW hl
  obtain ⟨hx, hb, hr, hml, hown, hts, hlk, hnm⟩ := hM
  have hown : s.vm.findClass RX2 = some m.cls := hown
  have hl : lv_has ls 4 [(0, .ref (x)), (1, .int (a)), (2, .int (b))] := hl
  refine lv_aload_n hx hb dX2_about_0 rfl (lv_at hl 0 rfl) ?_
  refine lv_iload_n hx hb dX2_about_1 rfl (lv_at hl 1 rfl) ?_
  refine c_virt (own := RX2) (As := [.int (a)]) (rest := []) hx hb hml hown hts hK hW (k_X2_messageAt l hR (a)) ml_RX2_33 im_yX2_messageAt se_yX2_messageAt in_RX2 cd_yX2_messageAt 1 (by decide +kernel) ⟨Nat.le_of_ble_eq_true rfl, Nat.le_of_ble_eq_true rfl⟩ hR.1 rfl rfl rfl hl.1 rfl (Nat.le_of_ble_eq_true rfl) dX2_about_2 ⟨Nat.le_of_ble_eq_true rfl, Nat.le_of_ble_eq_true rfl⟩ (fun v g2 H1 locs1 hp hW hKT => ?_)
  obtain ⟨hp, hg⟩ := hp
  rw [hg] at hW
  rcases hp with ⟨em_64, rfl⟩ | ⟨em_65, rfl⟩
  · skip
    refine W.eq (g2 := F0 m 5 ls [.null]) rfl ?_
    refine lv_astore_nN (lv' := [(3, .null), (0, .ref (x)), (1, .int (a)), (2, .int (b))]) hx hb dX2_about_5 rfl hl (by decide) rfl (fun ls hl => ?_)
    refine lv_aload_nN hx hb dX2_about_6 rfl (lv_at hl 0 rfl) ?_
    refine lv_ifnonnullN hx hb dX2_about_7 ?_
    refine lv_bipush (v := -2) hx hb dX2_about_10 (by decide) ?_
    exact r_int hx hb hr hlk hW (by refine ⟨?_, rfl⟩; first | with_reducible rfl | (simp [bI, Fabout, em_64]; done) | (simp_all [bI, Fabout]; done)) (Nat.le_of_ble_eq_true rfl) (Nat.le_of_ble_eq_true rfl) dX2_about_12
  · skip
    have hi_66 := isMb_lt em_65
    have nhi_66 := isMb_ne em_65
    refine W.eq (g2 := F0 m 5 ls [.ref (ma (ix (a)))]) rfl ?_
    refine lv_astore_n (lv' := [(3, .ref (ma (ix (a)))), (0, .ref (x)), (1, .int (a)), (2, .int (b))]) hx hb dX2_about_5 rfl hl (by decide) rfl (fun ls hl => ?_)
    refine lv_aload_n hx hb dX2_about_6 rfl (lv_at hl 0 rfl) ?_
    refine lv_ifnonnull (tgt := 13) hx hb dX2_about_7 (by decide) ?_
    refine lv_iload_n hx hb dX2_about_13 rfl (lv_at hl 3 rfl) ?_
    by_cases c_67 : b = 0
    · skip
      refine lv_tableIn (tgt := 40) hx hb dX2_about_14 (by rw [c_67]; decide) (by rw [c_67]; decide) (by rw [c_67]; rfl) (by decide) ?_
      refine lv_aload_n hx hb dX2_about_40 rfl (lv_at hl 0 rfl) ?_
      refine hm_get hx hb hts hown hK hW hR hi_66 1 (by decide) fl_RX2_69 (v := .int (r 0 (ix (a)))) rfl dX2_about_41 ?_
      exact r_int hx hb hr hlk hW (by refine ⟨?_, rfl⟩; first | with_reducible rfl | (simp [bI, Fabout, em_65, nhi_66, c_67]; done) | (simp_all [bI, Fabout]; done)) (Nat.le_of_ble_eq_true rfl) (Nat.le_of_ble_eq_true rfl) dX2_about_44
    by_cases c_68 : b = 1
    · skip
      refine lv_tableIn (tgt := 45) hx hb dX2_about_14 (by rw [c_68]; decide) (by rw [c_68]; decide) (by rw [c_68]; rfl) (by decide) ?_
      refine lv_aload_n hx hb dX2_about_45 rfl (lv_at hl 0 rfl) ?_
      refine hm_get hx hb hts hown hK hW hR hi_66 2 (by decide) fl_RX2_56 (v := .int (r 1 (ix (a)))) rfl dX2_about_46 ?_
      exact r_int hx hb hr hlk hW (by refine ⟨?_, rfl⟩; first | with_reducible rfl | (simp [bI, Fabout, em_65, nhi_66, c_67, c_68]; done) | (simp_all [bI, Fabout]; done)) (Nat.le_of_ble_eq_true rfl) (Nat.le_of_ble_eq_true rfl) dX2_about_49
    by_cases c_69 : b = 2
    · skip
      refine lv_tableIn (tgt := 50) hx hb dX2_about_14 (by rw [c_69]; decide) (by rw [c_69]; decide) (by rw [c_69]; rfl) (by decide) ?_
      refine lv_aload_n hx hb dX2_about_50 rfl (lv_at hl 0 rfl) ?_
      refine hm_get hx hb hts hown hK hW hR hi_66 4 (by decide) fl_RX2_45 (v := .ref (pa (ix (a)))) rfl dX2_about_51 ?_
      refine hp_len hx hb hK hW hR hi_66 dX2_about_54 ?_
      exact r_int hx hb hr hlk hW (by refine ⟨?_, rfl⟩; first | with_reducible rfl | (simp [bI, Fabout, em_65, nhi_66, c_67, c_68, c_69]; done) | (simp_all [bI, Fabout]; done)) (Nat.le_of_ble_eq_true rfl) (Nat.le_of_ble_eq_true rfl) dX2_about_55
    refine lv_tableOut (tgt := 56) hx hb dX2_about_14 (by have z0 := lv_neT (a := 0) c_67 (by decide); have z1 := lv_neT (a := 1) c_68 (by decide); have z2 := lv_neT (a := 2) c_69 (by decide); omega) (by decide) ?_
    refine lv_bipush (v := -2) hx hb dX2_about_56 (by decide) ?_
    exact r_int hx hb hr hlk hW (by refine ⟨?_, rfl⟩; first | with_reducible rfl | (simp [bI, Fabout, em_65, nhi_66, c_67, c_68, c_69]; done) | (simp_all [bI, Fabout]; done)) (Nat.le_of_ble_eq_true rfl) (Nat.le_of_ble_eq_true rfl) dX2_about_58

set_option maxHeartbeats 4000000 in
set_option maxRecDepth 100000 in
theorem k_X2_told (l : Launch) {E : gE} {x xa xk : Nat} {ma pa ka : Nat → Nat} {z : Bool} {r : sg} {g : gm} (hR : HR E x xa xk ma pa ka z r g) (a : Int32) : CM l yX2_told cX2_told 2 (some .int) ({ frames := 0, cells := 0, slots := 0, locals := 0 }) E [.ref (x), .int (a)] g (fun vv g' => vv = some (.int (Ftold z r a)) ∧ g' = g) := by
  refine CM.of (by decide) (Nat.le_of_ble_eq_true rfl) ?_
  intro p e s m below meth c ls hM hK hW hl
  obtain ⟨hx, hb, hr, hml, hown, hts, hlk, hnm⟩ := hM
  have hown : s.vm.findClass RX2 = some m.cls := hown
  have hl : lv_has ls 2 [(0, .ref (x)), (1, .int (a))] := hl
  refine lv_iload_n hx hb dX2_told_0 rfl (lv_at hl 1 rfl) ?_
  by_cases c_70 : a = 0
  · skip
    refine lv_tableIn (tgt := 36) hx hb dX2_told_1 (by rw [c_70]; decide) (by rw [c_70]; decide) (by rw [c_70]; rfl) (by decide) ?_
    refine lv_aload_n hx hb dX2_told_36 rfl (lv_at hl 0 rfl) ?_
    refine h_get hx hb hts hown hK hW hR 5 (by decide) fl_RX2_108 (v := .int (tal z r 2)) rfl dX2_told_37 ?_
    exact r_int hx hb hr hlk hW (by refine ⟨?_, rfl⟩; first | with_reducible rfl | (simp [bI, Ftold, c_70]; done) | (simp_all [bI, Ftold]; done)) (Nat.le_of_ble_eq_true rfl) (Nat.le_of_ble_eq_true rfl) dX2_told_40
  by_cases c_71 : a = 1
  · skip
    refine lv_tableIn (tgt := 41) hx hb dX2_told_1 (by rw [c_71]; decide) (by rw [c_71]; decide) (by rw [c_71]; rfl) (by decide) ?_
    refine lv_aload_n hx hb dX2_told_41 rfl (lv_at hl 0 rfl) ?_
    refine h_get hx hb hts hown hK hW hR 6 (by decide) fl_RX2_111 (v := .int (tal z r 3)) rfl dX2_told_42 ?_
    exact r_int hx hb hr hlk hW (by refine ⟨?_, rfl⟩; first | with_reducible rfl | (simp [bI, Ftold, c_70, c_71]; done) | (simp_all [bI, Ftold]; done)) (Nat.le_of_ble_eq_true rfl) (Nat.le_of_ble_eq_true rfl) dX2_told_45
  by_cases c_72 : a = 2
  · skip
    refine lv_tableIn (tgt := 46) hx hb dX2_told_1 (by rw [c_72]; decide) (by rw [c_72]; decide) (by rw [c_72]; rfl) (by decide) ?_
    refine lv_aload_n hx hb dX2_told_46 rfl (lv_at hl 0 rfl) ?_
    refine h_get hx hb hts hown hK hW hR 7 (by decide) fl_RX2_114 (v := .int (tal z r 4)) rfl dX2_told_47 ?_
    exact r_int hx hb hr hlk hW (by refine ⟨?_, rfl⟩; first | with_reducible rfl | (simp [bI, Ftold, c_70, c_71, c_72]; done) | (simp_all [bI, Ftold]; done)) (Nat.le_of_ble_eq_true rfl) (Nat.le_of_ble_eq_true rfl) dX2_told_50
  by_cases c_73 : a = 3
  · skip
    refine lv_tableIn (tgt := 51) hx hb dX2_told_1 (by rw [c_73]; decide) (by rw [c_73]; decide) (by rw [c_73]; rfl) (by decide) ?_
    refine lv_aload_n hx hb dX2_told_51 rfl (lv_at hl 0 rfl) ?_
    refine h_get hx hb hts hown hK hW hR 8 (by decide) fl_RX2_117 (v := .int (tal z r 5)) rfl dX2_told_52 ?_
    exact r_int hx hb hr hlk hW (by refine ⟨?_, rfl⟩; first | with_reducible rfl | (simp [bI, Ftold, c_70, c_71, c_72, c_73]; done) | (simp_all [bI, Ftold]; done)) (Nat.le_of_ble_eq_true rfl) (Nat.le_of_ble_eq_true rfl) dX2_told_55
  by_cases c_74 : a = 4
  · skip
    refine lv_tableIn (tgt := 56) hx hb dX2_told_1 (by rw [c_74]; decide) (by rw [c_74]; decide) (by rw [c_74]; rfl) (by decide) ?_
    refine lv_aload_n hx hb dX2_told_56 rfl (lv_at hl 0 rfl) ?_
    refine h_get hx hb hts hown hK hW hR 9 (by decide) fl_RX2_21 (v := .int (tal z r 6)) rfl dX2_told_57 ?_
    exact r_int hx hb hr hlk hW (by refine ⟨?_, rfl⟩; first | with_reducible rfl | (simp [bI, Ftold, c_70, c_71, c_72, c_73, c_74]; done) | (simp_all [bI, Ftold]; done)) (Nat.le_of_ble_eq_true rfl) (Nat.le_of_ble_eq_true rfl) dX2_told_60
  refine lv_tableOut (tgt := 61) hx hb dX2_told_1 (by have z0 := lv_neT (a := 0) c_70 (by decide); have z1 := lv_neT (a := 1) c_71 (by decide); have z2 := lv_neT (a := 2) c_72 (by decide); have z3 := lv_neT (a := 3) c_73 (by decide); have z4 := lv_neT (a := 4) c_74 (by decide); omega) (by decide) ?_
  refine lv_bipush (v := -2) hx hb dX2_told_61 (by decide) ?_
  exact r_int hx hb hr hlk hW (by refine ⟨?_, rfl⟩; first | with_reducible rfl | (simp [bI, Ftold, c_70, c_71, c_72, c_73, c_74]; done) | (simp_all [bI, Ftold]; done)) (Nat.le_of_ble_eq_true rfl) (Nat.le_of_ble_eq_true rfl) dX2_told_63

set_option maxHeartbeats 4000000 in
set_option maxRecDepth 100000 in
theorem k_X2_count (l : Launch) {E : gE} {x xa xk : Nat} {ma pa ka : Nat → Nat} {z : Bool} {r : sg} {g : gm} (hR : HR E x xa xk ma pa ka z r g) (a : Int32) : CM l yX2_count cX2_count 2 (some .int) ({ frames := 0, cells := 0, slots := 0, locals := 0 }) E [.ref (x), .int (a)] g (fun vv g' => vv = some (.int (Fcount r a)) ∧ g' = g) := by
  refine CM.of (by decide) (Nat.le_of_ble_eq_true rfl) ?_
  intro p e s m below meth c ls hM hK hW hl
  obtain ⟨hx, hb, hr, hml, hown, hts, hlk, hnm⟩ := hM
  have hown : s.vm.findClass RX2 = some m.cls := hown
  have hl : lv_has ls 2 [(0, .ref (x)), (1, .int (a))] := hl
  refine lv_iload_n hx hb dX2_count_0 rfl (lv_at hl 1 rfl) ?_
  by_cases c_75 : a = 0
  · skip
    refine lv_tableIn (tgt := 28) hx hb dX2_count_1 (by rw [c_75]; decide) (by rw [c_75]; decide) (by rw [c_75]; rfl) (by decide) ?_
    refine lv_aload_n hx hb dX2_count_28 rfl (lv_at hl 0 rfl) ?_
    refine h_get hx hb hts hown hK hW hR 2 (by decide) fl_RX2_130 (v := .int (r 17 0)) rfl dX2_count_29 ?_
    exact r_int hx hb hr hlk hW (by refine ⟨?_, rfl⟩; first | with_reducible rfl | (simp [bI, Fcount, c_75]; done) | (simp_all [bI, Fcount]; done)) (Nat.le_of_ble_eq_true rfl) (Nat.le_of_ble_eq_true rfl) dX2_count_32
  by_cases c_76 : a = 1
  · skip
    refine lv_tableIn (tgt := 33) hx hb dX2_count_1 (by rw [c_76]; decide) (by rw [c_76]; decide) (by rw [c_76]; rfl) (by decide) ?_
    refine lv_aload_n hx hb dX2_count_33 rfl (lv_at hl 0 rfl) ?_
    refine h_get hx hb hts hown hK hW hR 3 (by decide) fl_RX2_75 (v := .int (nsetN r 8)) rfl dX2_count_34 ?_
    exact r_int hx hb hr hlk hW (by refine ⟨?_, rfl⟩; first | with_reducible rfl | (simp [bI, Fcount, c_75, c_76]; done) | (simp_all [bI, Fcount]; done)) (Nat.le_of_ble_eq_true rfl) (Nat.le_of_ble_eq_true rfl) dX2_count_37
  by_cases c_77 : a = 2
  · skip
    refine lv_tableIn (tgt := 38) hx hb dX2_count_1 (by rw [c_77]; decide) (by rw [c_77]; decide) (by rw [c_77]; rfl) (by decide) ?_
    refine lv_aload_n hx hb dX2_count_38 rfl (lv_at hl 0 rfl) ?_
    refine h_get hx hb hts hown hK hW hR 4 (by decide) fl_RX2_105 (v := .int (r 17 1)) rfl dX2_count_39 ?_
    exact r_int hx hb hr hlk hW (by refine ⟨?_, rfl⟩; first | with_reducible rfl | (simp [bI, Fcount, c_75, c_76, c_77]; done) | (simp_all [bI, Fcount]; done)) (Nat.le_of_ble_eq_true rfl) (Nat.le_of_ble_eq_true rfl) dX2_count_42
  refine lv_tableOut (tgt := 43) hx hb dX2_count_1 (by have z0 := lv_neT (a := 0) c_75 (by decide); have z1 := lv_neT (a := 1) c_76 (by decide); have z2 := lv_neT (a := 2) c_77 (by decide); omega) (by decide) ?_
  refine lv_bipush (v := -2) hx hb dX2_count_43 (by decide) ?_
  exact r_int hx hb hr hlk hW (by refine ⟨?_, rfl⟩; first | with_reducible rfl | (simp [bI, Fcount, c_75, c_76, c_77]; done) | (simp_all [bI, Fcount]; done)) (Nat.le_of_ble_eq_true rfl) (Nat.le_of_ble_eq_true rfl) dX2_count_45

set_option maxHeartbeats 4000000 in
set_option maxRecDepth 100000 in
theorem k_X2_of (l : Launch) {E : gE} {x xa xk : Nat} {ma pa ka : Nat → Nat} {z : Bool} {r : sg} {g : gm} (hR : HR E x xa xk ma pa ka z r g) (a b : Int32) : CM l yX2_of cX2_of 4 (some .int) ({ frames := 1, cells := 0, slots := 0, locals := 21 }) E [.ref (x), .int (a), .int (b)] g (fun vv g' => vv = some (.int (Fof r a b)) ∧ g' = g) := by
  refine CM.of (by decide) (Nat.le_of_ble_eq_true rfl) ?_
  intro p e s m below meth c ls hM hK hW hl
  obtain ⟨hx, hb, hr, hml, hown, hts, hlk, hnm⟩ := hM
  have hown : s.vm.findClass RX2 = some m.cls := hown
  have hl : lv_has ls 4 [(0, .ref (x)), (1, .int (a)), (2, .int (b))] := hl
  refine lv_aload_n hx hb dX2_of_0 rfl (lv_at hl 0 rfl) ?_
  refine lv_iload_n hx hb dX2_of_1 rfl (lv_at hl 1 rfl) ?_
  refine c_virt (own := RX2) (As := [.int (a)]) (rest := []) hx hb hml hown hts hK hW (k_X2_counterAt l hR (a)) ml_RX2_82 im_yX2_counterAt se_yX2_counterAt in_RX2 cd_yX2_counterAt 1 (by decide +kernel) ⟨Nat.le_of_ble_eq_true rfl, Nat.le_of_ble_eq_true rfl⟩ hR.1 rfl rfl rfl hl.1 rfl (Nat.le_of_ble_eq_true rfl) dX2_of_2 ⟨Nat.le_of_ble_eq_true rfl, Nat.le_of_ble_eq_true rfl⟩ (fun v g2 H1 locs1 hp hW hKT => ?_)
  obtain ⟨hp, hg⟩ := hp
  rw [hg] at hW
  rcases hp with ⟨em_78, rfl⟩ | ⟨em_79, rfl⟩
  · skip
    refine W.eq (g2 := F0 m 5 ls [.null]) rfl ?_
    refine lv_astore_nN (lv' := [(3, .null), (0, .ref (x)), (1, .int (a)), (2, .int (b))]) hx hb dX2_of_5 rfl hl (by decide) rfl (fun ls hl => ?_)
    refine lv_aload_nN hx hb dX2_of_6 rfl (lv_at hl 0 rfl) ?_
    refine lv_ifnonnullN hx hb dX2_of_7 ?_
    refine lv_iconst (v := 0) hx hb dX2_of_10 (by decide) ?_
    exact r_int hx hb hr hlk hW (by refine ⟨?_, rfl⟩; first | with_reducible rfl | (simp [bI, Fof, em_78]; done) | (simp_all [bI, Fof]; done)) (Nat.le_of_ble_eq_true rfl) (Nat.le_of_ble_eq_true rfl) dX2_of_11
  · skip
    have hk_80 := isCb_lt em_79
    have hs_81 := isCb_s em_79
    refine W.eq (g2 := F0 m 5 ls [.ref (ka (ix (a)))]) rfl ?_
    refine lv_astore_n (lv' := [(3, .ref (ka (ix (a)))), (0, .ref (x)), (1, .int (a)), (2, .int (b))]) hx hb dX2_of_5 rfl hl (by decide) rfl (fun ls hl => ?_)
    refine lv_aload_n hx hb dX2_of_6 rfl (lv_at hl 0 rfl) ?_
    refine lv_ifnonnull (tgt := 12) hx hb dX2_of_7 (by decide) ?_
    refine lv_iload_n hx hb dX2_of_12 rfl (lv_at hl 3 rfl) ?_
    by_cases c_82 : b = 0
    · skip
      refine lv_tableIn (tgt := 56) hx hb dX2_of_13 (by rw [c_82]; decide) (by rw [c_82]; decide) (by rw [c_82]; rfl) (by decide) ?_
      refine lv_aload_n hx hb dX2_of_56 rfl (lv_at hl 0 rfl) ?_
      refine hk_get hx hb hts hown hK hW hR hk_80 hs_81 6 (by decide) fl_RX2_92 (v := .int (r 13 (ix (a)))) rfl dX2_of_57 ?_
      exact r_int hx hb hr hlk hW (by refine ⟨?_, rfl⟩; first | with_reducible rfl | (simp [bI, Fof, em_79, c_82]; done) | (simp_all [bI, Fof]; done)) (Nat.le_of_ble_eq_true rfl) (Nat.le_of_ble_eq_true rfl) dX2_of_60
    by_cases c_83 : b = 1
    · skip
      refine lv_tableIn (tgt := 61) hx hb dX2_of_13 (by rw [c_83]; decide) (by rw [c_83]; decide) (by rw [c_83]; rfl) (by decide) ?_
      refine lv_aload_n hx hb dX2_of_61 rfl (lv_at hl 0 rfl) ?_
      refine hk_get hx hb hts hown hK hW hR hk_80 hs_81 10 (by decide) fl_RX2_124 (v := .int (r 15 (ix (a)))) rfl dX2_of_62 ?_
      exact r_int hx hb hr hlk hW (by refine ⟨?_, rfl⟩; first | with_reducible rfl | (simp [bI, Fof, em_79, c_82, c_83]; done) | (simp_all [bI, Fof]; done)) (Nat.le_of_ble_eq_true rfl) (Nat.le_of_ble_eq_true rfl) dX2_of_65
    by_cases c_84 : b = 2
    · skip
      refine lv_tableIn (tgt := 66) hx hb dX2_of_13 (by rw [c_84]; decide) (by rw [c_84]; decide) (by rw [c_84]; rfl) (by decide) ?_
      refine lv_aload_n hx hb dX2_of_66 rfl (lv_at hl 0 rfl) ?_
      refine hk_get hx hb hts hown hK hW hR hk_80 hs_81 11 (by decide) fl_RX2_127 (v := .int (r 16 (ix (a)))) rfl dX2_of_67 ?_
      exact r_int hx hb hr hlk hW (by refine ⟨?_, rfl⟩; first | with_reducible rfl | (simp [bI, Fof, em_79, c_82, c_83, c_84]; done) | (simp_all [bI, Fof]; done)) (Nat.le_of_ble_eq_true rfl) (Nat.le_of_ble_eq_true rfl) dX2_of_70
    by_cases c_85 : b = 3
    · skip
      refine lv_tableIn (tgt := 71) hx hb dX2_of_13 (by rw [c_85]; decide) (by rw [c_85]; decide) (by rw [c_85]; rfl) (by decide) ?_
      refine lv_aload_n hx hb dX2_of_71 rfl (lv_at hl 0 rfl) ?_
      refine hk_get hx hb hts hown hK hW hR hk_80 hs_81 9 (by decide) fl_RX2_102 (v := .int (r 6 (ix (a)))) rfl dX2_of_72 ?_
      refine c_stat (own := RX2) (As := [.int (r 6 (ix (a)))]) (rest := []) hx hb hml hown hts hK hW (k_X2_asInt l _) ml_RX2_65 st_yX2_asInt in_RX2 cd_yX2_asInt 1 (by decide +kernel) ⟨Nat.le_of_ble_eq_true rfl, Nat.le_of_ble_eq_true rfl⟩ rfl hl.1 rfl (Nat.le_of_ble_eq_true rfl) dX2_of_75 ⟨Nat.le_of_ble_eq_true rfl, Nat.le_of_ble_eq_true rfl⟩ (fun v g2 H1 locs1 hp hW hKT => ?_)
      obtain ⟨rfl, hg⟩ := hp
      rw [hg] at hW
      refine W.eq (g2 := F0 m 78 ls [.int (asI (r 6 (ix (a))))]) rfl ?_
      exact r_int hx hb hr hlk hW (by refine ⟨?_, rfl⟩; first | with_reducible rfl | (simp [bI, Fof, em_79, c_82, c_83, c_84, c_85]; done) | (simp_all [bI, Fof]; done)) (Nat.le_of_ble_eq_true rfl) (Nat.le_of_ble_eq_true rfl) dX2_of_78
    by_cases c_86 : b = 4
    · skip
      refine lv_tableIn (tgt := 79) hx hb dX2_of_13 (by rw [c_86]; decide) (by rw [c_86]; decide) (by rw [c_86]; rfl) (by decide) ?_
      refine lv_aload_n hx hb dX2_of_79 rfl (lv_at hl 0 rfl) ?_
      refine hk_get hx hb hts hown hK hW hR hk_80 hs_81 7 (by decide) fl_RX2_95 (v := .int (r 14 (ix (a)))) rfl dX2_of_80 ?_
      exact r_int hx hb hr hlk hW (by refine ⟨?_, rfl⟩; first | with_reducible rfl | (simp [bI, Fof, em_79, c_82, c_83, c_84, c_85, c_86]; done) | (simp_all [bI, Fof]; done)) (Nat.le_of_ble_eq_true rfl) (Nat.le_of_ble_eq_true rfl) dX2_of_83
    by_cases c_87 : b = 5
    · skip
      refine lv_tableIn (tgt := 84) hx hb dX2_of_13 (by rw [c_87]; decide) (by rw [c_87]; decide) (by rw [c_87]; rfl) (by decide) ?_
      refine lv_aload_n hx hb dX2_of_84 rfl (lv_at hl 0 rfl) ?_
      refine hk_get hx hb hts hown hK hW hR hk_80 hs_81 5 (by decide) fl_RX2_89 (v := .int (r 12 (ix (a)))) rfl dX2_of_85 ?_
      exact r_int hx hb hr hlk hW (by refine ⟨?_, rfl⟩; first | with_reducible rfl | (simp [bI, Fof, em_79, c_82, c_83, c_84, c_85, c_86, c_87]; done) | (simp_all [bI, Fof]; done)) (Nat.le_of_ble_eq_true rfl) (Nat.le_of_ble_eq_true rfl) dX2_of_88
    by_cases c_88 : b = 6
    · skip
      refine lv_tableIn (tgt := 89) hx hb dX2_of_13 (by rw [c_88]; decide) (by rw [c_88]; decide) (by rw [c_88]; rfl) (by decide) ?_
      refine lv_aload_n hx hb dX2_of_89 rfl (lv_at hl 0 rfl) ?_
      refine hk_get hx hb hts hown hK hW hR hk_80 hs_81 8 (by decide) fl_RX2_98 (v := .int (r 7 (ix (a)))) rfl dX2_of_90 ?_
      refine c_stat (own := RX2) (As := [.int (r 7 (ix (a)))]) (rest := []) hx hb hml hown hts hK hW (k_X2_asInt l _) ml_RX2_65 st_yX2_asInt in_RX2 cd_yX2_asInt 1 (by decide +kernel) ⟨Nat.le_of_ble_eq_true rfl, Nat.le_of_ble_eq_true rfl⟩ rfl hl.1 rfl (Nat.le_of_ble_eq_true rfl) dX2_of_93 ⟨Nat.le_of_ble_eq_true rfl, Nat.le_of_ble_eq_true rfl⟩ (fun v g2 H1 locs1 hp hW hKT => ?_)
      obtain ⟨rfl, hg⟩ := hp
      rw [hg] at hW
      refine W.eq (g2 := F0 m 96 ls [.int (asI (r 7 (ix (a))))]) rfl ?_
      exact r_int hx hb hr hlk hW (by refine ⟨?_, rfl⟩; first | with_reducible rfl | (simp [bI, Fof, em_79, c_82, c_83, c_84, c_85, c_86, c_87, c_88]; done) | (simp_all [bI, Fof]; done)) (Nat.le_of_ble_eq_true rfl) (Nat.le_of_ble_eq_true rfl) dX2_of_96
    refine lv_tableOut (tgt := 97) hx hb dX2_of_13 (by have z0 := lv_neT (a := 0) c_82 (by decide); have z1 := lv_neT (a := 1) c_83 (by decide); have z2 := lv_neT (a := 2) c_84 (by decide); have z3 := lv_neT (a := 3) c_85 (by decide); have z4 := lv_neT (a := 4) c_86 (by decide); have z5 := lv_neT (a := 5) c_87 (by decide); have z6 := lv_neT (a := 6) c_88 (by decide); omega) (by decide) ?_
    refine lv_iconst (v := 0) hx hb dX2_of_97 (by decide) ?_
    exact r_int hx hb hr hlk hW (by refine ⟨?_, rfl⟩; first | with_reducible rfl | (simp [bI, Fof, em_79, c_82, c_83, c_84, c_85, c_86, c_87, c_88]; done) | (simp_all [bI, Fof]; done)) (Nat.le_of_ble_eq_true rfl) (Nat.le_of_ble_eq_true rfl) dX2_of_98
end
section
def holdB (r : sg) (n : Nat) (x : Int32) : Bool := x == -1 || fitB r (ix x) (r 0 n) (r 1 n - 1)
theorem isMb_n1 {r : sg} {m : Int32} (h : isMb r m = true) : (m == -1) = false := by
  cases hq : (m == -1) with
  | false => rfl
  | true => exact absurd (by rw [beq_iff_eq.mp hq]; decide) (isMb_nn h)
def Fplace (r : sg) (m i x : Int32) : Int32 × sg := if isMb r m && (isMb r x || x == -1) then (if hasP r (ix m) i && holdB r (ix m) x then (1, s2 r 4 (8 * ix m + ix i) x) else (-5, r)) else (-2, r)
def Ffigure (r : sg) (m i v : Int32) : Int32 × sg := if isMb r m then (if hasN r (ix m) i then (1, s2 r 4 (8 * ix m + ix i) (lowI (r 0 (ix m)) v)) else (-5, r)) else (-2, r)
def Fjob (r : sg) (k j n o q : Int32) : Int32 × sg := if isCb r k && (canB r (ix k) j && ((o == -1 || isMb r o) && (!decide (q < 0) && !decide (1 < q)))) then (1, s2 (s2 (s2 (s2 r 12 (ix k) j) 13 (ix k) n) 14 (ix k) o) 7 (ix k) (if q = 1 then 1 else 0)) else (-2, r)
def Fshut (r : sg) (k : Int32) (on : Bool) : Int32 × sg := if isCb r k then (asI (r 6 (ix k)), s2 r 6 (ix k) (bI on)) else (-2, r)

set_option maxHeartbeats 4000000 in
set_option maxRecDepth 100000 in
theorem k_X2_place (l : Launch) {E : gE} {x xa xk : Nat} {ma pa ka : Nat → Nat} {z : Bool} {r : sg} {g : gm} (hR : HR E x xa xk ma pa ka z r g) (a b d : Int32) : CM l yX2_place cX2_place 6 (some .int) ({ frames := 3, cells := 0, slots := 0, locals := 64 }) E [.ref (x), .int (a), .int (b), .int (d)] g (fun vv g' => vv = some (.int (Fplace r a b d).1) ∧ HR E x xa xk ma pa ka z (Fplace r a b d).2 g') := by
  refine CM.of (by decide) (Nat.le_of_ble_eq_true rfl) ?_
  intro p e s m below meth c ls hM hK hW hl
  obtain ⟨hx, hb, hr, hml, hown, hts, hlk, hnm⟩ := hM
  have hown : s.vm.findClass RX2 = some m.cls := hown
  have hl : lv_has ls 6 [(0, .ref (x)), (1, .int (a)), (2, .int (b)), (3, .int (d))] := hl
  refine lv_aload_n hx hb dX2_place_0 rfl (lv_at hl 0 rfl) ?_
  refine lv_iload_n hx hb dX2_place_1 rfl (lv_at hl 1 rfl) ?_
  refine c_virt (own := RX2) (As := [.int (a)]) (rest := []) hx hb hml hown hts hK hW (k_X2_messageAt l hR (a)) ml_RX2_33 im_yX2_messageAt se_yX2_messageAt in_RX2 cd_yX2_messageAt 1 (by decide +kernel) ⟨Nat.le_of_ble_eq_true rfl, Nat.le_of_ble_eq_true rfl⟩ hR.1 rfl rfl rfl hl.1 rfl (Nat.le_of_ble_eq_true rfl) dX2_place_2 ⟨Nat.le_of_ble_eq_true rfl, Nat.le_of_ble_eq_true rfl⟩ (fun v g2 H1 locs1 hp hW hKT => ?_)
  obtain ⟨hp, hg⟩ := hp
  rw [hg] at hW
  rcases hp with ⟨em_89, rfl⟩ | ⟨em_90, rfl⟩
  · skip
    refine W.eq (g2 := F0 m 5 ls [.null]) rfl ?_
    refine lv_astoreN (lv' := [(4, .null), (0, .ref (x)), (1, .int (a)), (2, .int (b)), (3, .int (d))]) hx hb dX2_place_5 hl (by decide) rfl (fun ls hl => ?_)
    refine lv_aload_n hx hb dX2_place_7 rfl (lv_at hl 1 rfl) ?_
    refine lv_iload_n hx hb dX2_place_8 rfl (lv_at hl 4 rfl) ?_
    refine c_virt (own := RX2) (As := [.int (d)]) (rest := []) hx hb hml hown hts hK hW (k_X2_messageAt l hR (d)) ml_RX2_33 im_yX2_messageAt se_yX2_messageAt in_RX2 cd_yX2_messageAt 1 (by decide +kernel) ⟨Nat.le_of_ble_eq_true rfl, Nat.le_of_ble_eq_true rfl⟩ hR.1 rfl rfl rfl hl.1 rfl (Nat.le_of_ble_eq_true rfl) dX2_place_9 ⟨Nat.le_of_ble_eq_true rfl, Nat.le_of_ble_eq_true rfl⟩ (fun v g2 H1 locs1 hp hW hKT => ?_)
    obtain ⟨hp, hg⟩ := hp
    rw [hg] at hW
    rcases hp with ⟨em_92, rfl⟩ | ⟨em_93, rfl⟩
    · skip
      refine W.eq (g2 := F0 m 12 ls [.null]) rfl ?_
      refine lv_astoreN (lv' := [(5, .null), (4, .null), (0, .ref (x)), (1, .int (a)), (2, .int (b)), (3, .int (d))]) hx hb dX2_place_12 hl (by decide) rfl (fun ls hl => ?_)
      refine lv_aloadN hx hb dX2_place_14 (lv_at hl 1 rfl) ?_
      refine lv_ifnullN (tgt := 29) hx hb dX2_place_16 (by decide) ?_
      refine lv_bipush (v := -2) hx hb dX2_place_29 (by decide) ?_
      exact r_int hx hb hr hlk hW (by have e1 : Fplace r a b d = (-2, r) := (by first | (simp [Fplace, holdB, bI, isMb_n1, em_89, em_92]; done) | (simp_all [Fplace, holdB, bI, isMb_n1]; done)); rw [e1]; exact ⟨rfl, hR⟩) (Nat.le_of_ble_eq_true rfl) (Nat.le_of_ble_eq_true rfl) dX2_place_31
    · skip
      have hi_94 := isMb_lt em_93
      have nhi_94 := isMb_ne em_93
      refine W.eq (g2 := F0 m 12 ls [.ref (ma (ix (d)))]) rfl ?_
      refine lv_astore (lv' := [(5, .ref (ma (ix (d)))), (4, .null), (0, .ref (x)), (1, .int (a)), (2, .int (b)), (3, .int (d))]) hx hb dX2_place_12 hl (by decide) rfl (fun ls hl => ?_)
      refine lv_aloadN hx hb dX2_place_14 (lv_at hl 1 rfl) ?_
      refine lv_ifnullN (tgt := 29) hx hb dX2_place_16 (by decide) ?_
      refine lv_bipush (v := -2) hx hb dX2_place_29 (by decide) ?_
      exact r_int hx hb hr hlk hW (by have e1 : Fplace r a b d = (-2, r) := (by first | (simp [Fplace, holdB, bI, isMb_n1, em_89, em_93, nhi_94]; done) | (simp_all [Fplace, holdB, bI, isMb_n1]; done)); rw [e1]; exact ⟨rfl, hR⟩) (Nat.le_of_ble_eq_true rfl) (Nat.le_of_ble_eq_true rfl) dX2_place_31
  · skip
    have hi_91 := isMb_lt em_90
    have nhi_91 := isMb_ne em_90
    refine W.eq (g2 := F0 m 5 ls [.ref (ma (ix (a)))]) rfl ?_
    refine lv_astore (lv' := [(4, .ref (ma (ix (a)))), (0, .ref (x)), (1, .int (a)), (2, .int (b)), (3, .int (d))]) hx hb dX2_place_5 hl (by decide) rfl (fun ls hl => ?_)
    refine lv_aload_n hx hb dX2_place_7 rfl (lv_at hl 1 rfl) ?_
    refine lv_iload_n hx hb dX2_place_8 rfl (lv_at hl 4 rfl) ?_
    refine c_virt (own := RX2) (As := [.int (d)]) (rest := []) hx hb hml hown hts hK hW (k_X2_messageAt l hR (d)) ml_RX2_33 im_yX2_messageAt se_yX2_messageAt in_RX2 cd_yX2_messageAt 1 (by decide +kernel) ⟨Nat.le_of_ble_eq_true rfl, Nat.le_of_ble_eq_true rfl⟩ hR.1 rfl rfl rfl hl.1 rfl (Nat.le_of_ble_eq_true rfl) dX2_place_9 ⟨Nat.le_of_ble_eq_true rfl, Nat.le_of_ble_eq_true rfl⟩ (fun v g2 H1 locs1 hp hW hKT => ?_)
    obtain ⟨hp, hg⟩ := hp
    rw [hg] at hW
    rcases hp with ⟨em_95, rfl⟩ | ⟨em_96, rfl⟩
    · skip
      refine W.eq (g2 := F0 m 12 ls [.null]) rfl ?_
      refine lv_astoreN (lv' := [(5, .null), (4, .ref (ma (ix (a)))), (0, .ref (x)), (1, .int (a)), (2, .int (b)), (3, .int (d))]) hx hb dX2_place_12 hl (by decide) rfl (fun ls hl => ?_)
      refine lv_aload hx hb dX2_place_14 (lv_at hl 1 rfl) ?_
      refine lv_ifnull hx hb dX2_place_16 ?_
      refine lv_aloadN hx hb dX2_place_19 (lv_at hl 0 rfl) ?_
      refine lv_ifnonnullN hx hb dX2_place_21 ?_
      refine lv_iload_n hx hb dX2_place_24 rfl (lv_at hl 5 rfl) ?_
      refine lv_iconst (v := -1) hx hb dX2_place_25 (by decide) ?_
      refine lv_icmp_eq (tgt := 32) hx hb dX2_place_26 (by decide) (fun c_98 => ?_) (fun c_98 => ?_)
      · skip
        refine lv_aload hx hb dX2_place_32 (lv_at hl 1 rfl) ?_
        refine lv_iload_n hx hb dX2_place_34 rfl (lv_at hl 4 rfl) ?_
        refine c_virt (own := RX2) (As := [.int (b)]) (rest := []) hx hb hml hown hts hK hW (k_X1_hasMessagePlace l hR hi_91 _) ml_RX2_37 im_yX1_hasMessagePlace se_yX1_hasMessagePlace in_RX1 cd_yX1_hasMessagePlace 1 (by decide +kernel) ⟨Nat.le_of_ble_eq_true rfl, Nat.le_of_ble_eq_true rfl⟩ (hR.2.2.2.1 _ hi_91).1 rfl rfl rfl hl.1 rfl (Nat.le_of_ble_eq_true rfl) dX2_place_35 ⟨Nat.le_of_ble_eq_true rfl, Nat.le_of_ble_eq_true rfl⟩ (fun v g2 H1 locs1 hp hW hKT => ?_)
        obtain ⟨rfl, hg⟩ := hp
        rw [hg] at hW
        refine W.eq (g2 := F0 m 38 ls [.int (bI (hasP r (ix (a)) (b)))]) rfl ?_
        refine lv_if_eq (tgt := 51) hx hb dX2_place_38 (by decide) (fun c_99 => ?_) (fun c_99 => ?_)
        · skip
          have c_99 := (bI_eq0 _).mp c_99
          refine lv_bipush (v := -5) hx hb dX2_place_51 (by decide) ?_
          exact r_int hx hb hr hlk hW (by have e1 : Fplace r a b d = (-5, r) := (by first | (simp [Fplace, holdB, bI, isMb_n1, em_90, nhi_91, em_95, c_98, c_99]; done) | (simp_all [Fplace, holdB, bI, isMb_n1]; done)); rw [e1]; exact ⟨rfl, hR⟩) (Nat.le_of_ble_eq_true rfl) (Nat.le_of_ble_eq_true rfl) dX2_place_53
        · skip
          have c_99 := bI_ne0 c_99
          refine lv_aload hx hb dX2_place_41 (lv_at hl 1 rfl) ?_
          refine lv_aloadN hx hb dX2_place_43 (lv_at hl 0 rfl) ?_
          refine c_virt (own := RX2) (As := [.null]) (rest := []) hx hb hml hown hts hK hW (k_X1_holdsN l hR hi_91) ml_RX2_41 im_yX1_holds se_yX1_holds in_RX1 cd_yX1_holds 1 (by decide +kernel) ⟨Nat.le_of_ble_eq_true rfl, Nat.le_of_ble_eq_true rfl⟩ (hR.2.2.2.1 _ hi_91).1 rfl rfl rfl hl.1 rfl (Nat.le_of_ble_eq_true rfl) dX2_place_45 ⟨Nat.le_of_ble_eq_true rfl, Nat.le_of_ble_eq_true rfl⟩ (fun v g2 H1 locs1 hp hW hKT => ?_)
          obtain ⟨rfl, hg⟩ := hp
          rw [hg] at hW
          refine W.eq (g2 := F0 m 48 ls [.int (bI true)]) rfl ?_
          refine lv_if_ne (tgt := 54) hx hb dX2_place_48 (by decide) (fun c_100 => ?_) (fun c_100 => ?_)
          · skip
            have c_100 := bI_ne0 c_100
            refine lv_aload hx hb dX2_place_54 (lv_at hl 1 rfl) ?_
            refine hm_get hx hb hts hown hK hW hR hi_91 4 (by decide) fl_RX2_45 (v := .ref (pa (ix (a)))) rfl dX2_place_56 ?_
            refine lv_iload_n hx hb dX2_place_59 rfl (lv_at hl 4 rfl) ?_
            refine lv_iload_n hx hb dX2_place_60 rfl (lv_at hl 5 rfl) ?_
            refine hp_ast hx hb hK hW hR hi_91 (hasP_lt c_99).1 (hasP_lt c_99).2 dX2_place_61 (fun H1 locs1 g1 hW hR => ?_)
            refine lv_iconst (v := 1) hx hb dX2_place_62 (by decide) ?_
            exact r_int hx hb hr hlk hW (by have e1 : Fplace r a b d = (1, s2 r 4 (8 * (ix (a)) + ix b) (d)) := (by first | (simp [Fplace, holdB, bI, isMb_n1, em_90, nhi_91, em_95, c_98, c_99, c_100]; done) | (simp_all [Fplace, holdB, bI, isMb_n1]; done)); rw [e1]; exact ⟨rfl, hR⟩) (Nat.le_of_ble_eq_true rfl) (Nat.le_of_ble_eq_true rfl) dX2_place_63
          · skip
            have c_100 := (bI_eq0 _).mp c_100
            refine lv_bipush (v := -5) hx hb dX2_place_51 (by decide) ?_
            exact r_int hx hb hr hlk hW (by have e1 : Fplace r a b d = (-5, r) := (by first | (simp [Fplace, holdB, bI, isMb_n1, em_90, nhi_91, em_95, c_98, c_99, c_100]; done) | (simp_all [Fplace, holdB, bI, isMb_n1]; done)); rw [e1]; exact ⟨rfl, hR⟩) (Nat.le_of_ble_eq_true rfl) (Nat.le_of_ble_eq_true rfl) dX2_place_53
      · skip
        refine lv_bipush (v := -2) hx hb dX2_place_29 (by decide) ?_
        exact r_int hx hb hr hlk hW (by have e1 : Fplace r a b d = (-2, r) := (by first | (simp [Fplace, holdB, bI, isMb_n1, em_90, nhi_91, em_95, c_98]; done) | (simp_all [Fplace, holdB, bI, isMb_n1]; done)); rw [e1]; exact ⟨rfl, hR⟩) (Nat.le_of_ble_eq_true rfl) (Nat.le_of_ble_eq_true rfl) dX2_place_31
    · skip
      have hi_97 := isMb_lt em_96
      have nhi_97 := isMb_ne em_96
      refine W.eq (g2 := F0 m 12 ls [.ref (ma (ix (d)))]) rfl ?_
      refine lv_astore (lv' := [(5, .ref (ma (ix (d)))), (4, .ref (ma (ix (a)))), (0, .ref (x)), (1, .int (a)), (2, .int (b)), (3, .int (d))]) hx hb dX2_place_12 hl (by decide) rfl (fun ls hl => ?_)
      refine lv_aload hx hb dX2_place_14 (lv_at hl 1 rfl) ?_
      refine lv_ifnull hx hb dX2_place_16 ?_
      refine lv_aload hx hb dX2_place_19 (lv_at hl 0 rfl) ?_
      refine lv_ifnonnull (tgt := 32) hx hb dX2_place_21 (by decide) ?_
      refine lv_aload hx hb dX2_place_32 (lv_at hl 1 rfl) ?_
      refine lv_iload_n hx hb dX2_place_34 rfl (lv_at hl 4 rfl) ?_
      refine c_virt (own := RX2) (As := [.int (b)]) (rest := []) hx hb hml hown hts hK hW (k_X1_hasMessagePlace l hR hi_91 _) ml_RX2_37 im_yX1_hasMessagePlace se_yX1_hasMessagePlace in_RX1 cd_yX1_hasMessagePlace 1 (by decide +kernel) ⟨Nat.le_of_ble_eq_true rfl, Nat.le_of_ble_eq_true rfl⟩ (hR.2.2.2.1 _ hi_91).1 rfl rfl rfl hl.1 rfl (Nat.le_of_ble_eq_true rfl) dX2_place_35 ⟨Nat.le_of_ble_eq_true rfl, Nat.le_of_ble_eq_true rfl⟩ (fun v g2 H1 locs1 hp hW hKT => ?_)
      obtain ⟨rfl, hg⟩ := hp
      rw [hg] at hW
      refine W.eq (g2 := F0 m 38 ls [.int (bI (hasP r (ix (a)) (b)))]) rfl ?_
      refine lv_if_eq (tgt := 51) hx hb dX2_place_38 (by decide) (fun c_101 => ?_) (fun c_101 => ?_)
      · skip
        have c_101 := (bI_eq0 _).mp c_101
        refine lv_bipush (v := -5) hx hb dX2_place_51 (by decide) ?_
        exact r_int hx hb hr hlk hW (by have e1 : Fplace r a b d = (-5, r) := (by first | (simp [Fplace, holdB, bI, isMb_n1, em_90, nhi_91, em_96, nhi_97, c_101]; done) | (simp_all [Fplace, holdB, bI, isMb_n1]; done)); rw [e1]; exact ⟨rfl, hR⟩) (Nat.le_of_ble_eq_true rfl) (Nat.le_of_ble_eq_true rfl) dX2_place_53
      · skip
        have c_101 := bI_ne0 c_101
        refine lv_aload hx hb dX2_place_41 (lv_at hl 1 rfl) ?_
        refine lv_aload hx hb dX2_place_43 (lv_at hl 0 rfl) ?_
        refine c_virt (own := RX2) (As := [.ref (ma (ix (d)))]) (rest := []) hx hb hml hown hts hK hW (k_X1_holds l hR hi_91 hi_97) ml_RX2_41 im_yX1_holds se_yX1_holds in_RX1 cd_yX1_holds 1 (by decide +kernel) ⟨Nat.le_of_ble_eq_true rfl, Nat.le_of_ble_eq_true rfl⟩ (hR.2.2.2.1 _ hi_91).1 rfl rfl rfl hl.1 rfl (Nat.le_of_ble_eq_true rfl) dX2_place_45 ⟨Nat.le_of_ble_eq_true rfl, Nat.le_of_ble_eq_true rfl⟩ (fun v g2 H1 locs1 hp hW hKT => ?_)
        obtain ⟨rfl, hg⟩ := hp
        rw [hg] at hW
        refine W.eq (g2 := F0 m 48 ls [.int (bI (fitB r (ix (d)) (r 0 (ix (a))) (r 1 (ix (a)) - 1)))]) rfl ?_
        refine lv_if_ne (tgt := 54) hx hb dX2_place_48 (by decide) (fun c_102 => ?_) (fun c_102 => ?_)
        · skip
          have c_102 := bI_ne0 c_102
          refine lv_aload hx hb dX2_place_54 (lv_at hl 1 rfl) ?_
          refine hm_get hx hb hts hown hK hW hR hi_91 4 (by decide) fl_RX2_45 (v := .ref (pa (ix (a)))) rfl dX2_place_56 ?_
          refine lv_iload_n hx hb dX2_place_59 rfl (lv_at hl 4 rfl) ?_
          refine lv_iload_n hx hb dX2_place_60 rfl (lv_at hl 5 rfl) ?_
          refine hp_ast hx hb hK hW hR hi_91 (hasP_lt c_101).1 (hasP_lt c_101).2 dX2_place_61 (fun H1 locs1 g1 hW hR => ?_)
          refine lv_iconst (v := 1) hx hb dX2_place_62 (by decide) ?_
          exact r_int hx hb hr hlk hW (by have e1 : Fplace r a b d = (1, s2 r 4 (8 * (ix (a)) + ix b) (d)) := (by first | (simp [Fplace, holdB, bI, isMb_n1, em_90, nhi_91, em_96, nhi_97, c_101, c_102]; done) | (simp_all [Fplace, holdB, bI, isMb_n1]; done)); rw [e1]; exact ⟨rfl, hR⟩) (Nat.le_of_ble_eq_true rfl) (Nat.le_of_ble_eq_true rfl) dX2_place_63
        · skip
          have c_102 := (bI_eq0 _).mp c_102
          refine lv_bipush (v := -5) hx hb dX2_place_51 (by decide) ?_
          exact r_int hx hb hr hlk hW (by have e1 : Fplace r a b d = (-5, r) := (by first | (simp [Fplace, holdB, bI, isMb_n1, em_90, nhi_91, em_96, nhi_97, c_101, c_102]; done) | (simp_all [Fplace, holdB, bI, isMb_n1]; done)); rw [e1]; exact ⟨rfl, hR⟩) (Nat.le_of_ble_eq_true rfl) (Nat.le_of_ble_eq_true rfl) dX2_place_53

set_option maxHeartbeats 4000000 in
set_option maxRecDepth 100000 in
theorem k_X2_figure (l : Launch) {E : gE} {x xa xk : Nat} {ma pa ka : Nat → Nat} {z : Bool} {r : sg} {g : gm} (hR : HR E x xa xk ma pa ka z r g) (a b d : Int32) : CM l yX2_figure cX2_figure 5 (some .int) ({ frames := 1, cells := 0, slots := 0, locals := 21 }) E [.ref (x), .int (a), .int (b), .int (d)] g (fun vv g' => vv = some (.int (Ffigure r a b d).1) ∧ HR E x xa xk ma pa ka z (Ffigure r a b d).2 g') := by
  refine CM.of (by decide) (Nat.le_of_ble_eq_true rfl) ?_
  intro p e s m below meth c ls hM hK hW hl
  obtain ⟨hx, hb, hr, hml, hown, hts, hlk, hnm⟩ := hM
  have hown : s.vm.findClass RX2 = some m.cls := hown
  have hl : lv_has ls 5 [(0, .ref (x)), (1, .int (a)), (2, .int (b)), (3, .int (d))] := hl
  refine lv_aload_n hx hb dX2_figure_0 rfl (lv_at hl 0 rfl) ?_
  refine lv_iload_n hx hb dX2_figure_1 rfl (lv_at hl 1 rfl) ?_
  refine c_virt (own := RX2) (As := [.int (a)]) (rest := []) hx hb hml hown hts hK hW (k_X2_messageAt l hR (a)) ml_RX2_33 im_yX2_messageAt se_yX2_messageAt in_RX2 cd_yX2_messageAt 1 (by decide +kernel) ⟨Nat.le_of_ble_eq_true rfl, Nat.le_of_ble_eq_true rfl⟩ hR.1 rfl rfl rfl hl.1 rfl (Nat.le_of_ble_eq_true rfl) dX2_figure_2 ⟨Nat.le_of_ble_eq_true rfl, Nat.le_of_ble_eq_true rfl⟩ (fun v g2 H1 locs1 hp hW hKT => ?_)
  obtain ⟨hp, hg⟩ := hp
  rw [hg] at hW
  rcases hp with ⟨em_103, rfl⟩ | ⟨em_104, rfl⟩
  · skip
    refine W.eq (g2 := F0 m 5 ls [.null]) rfl ?_
    refine lv_astoreN (lv' := [(4, .null), (0, .ref (x)), (1, .int (a)), (2, .int (b)), (3, .int (d))]) hx hb dX2_figure_5 hl (by decide) rfl (fun ls hl => ?_)
    refine lv_aloadN hx hb dX2_figure_7 (lv_at hl 0 rfl) ?_
    refine lv_ifnonnullN hx hb dX2_figure_9 ?_
    refine lv_bipush (v := -2) hx hb dX2_figure_12 (by decide) ?_
    exact r_int hx hb hr hlk hW (by have e1 : Ffigure r a b d = (-2, r) := (by first | (simp [Ffigure, em_103]; done) | (simp_all [Ffigure]; done)); rw [e1]; exact ⟨rfl, hR⟩) (Nat.le_of_ble_eq_true rfl) (Nat.le_of_ble_eq_true rfl) dX2_figure_14
  · skip
    have hi_105 := isMb_lt em_104
    have nhi_105 := isMb_ne em_104
    refine W.eq (g2 := F0 m 5 ls [.ref (ma (ix (a)))]) rfl ?_
    refine lv_astore (lv' := [(4, .ref (ma (ix (a)))), (0, .ref (x)), (1, .int (a)), (2, .int (b)), (3, .int (d))]) hx hb dX2_figure_5 hl (by decide) rfl (fun ls hl => ?_)
    refine lv_aload hx hb dX2_figure_7 (lv_at hl 0 rfl) ?_
    refine lv_ifnonnull (tgt := 15) hx hb dX2_figure_9 (by decide) ?_
    refine lv_aload hx hb dX2_figure_15 (lv_at hl 0 rfl) ?_
    refine lv_iload_n hx hb dX2_figure_17 rfl (lv_at hl 3 rfl) ?_
    refine c_virt (own := RX2) (As := [.int (b)]) (rest := []) hx hb hml hown hts hK hW (k_X1_hasNumber l hR hi_105 _) ml_RX2_49 im_yX1_hasNumber se_yX1_hasNumber in_RX1 cd_yX1_hasNumber 1 (by decide +kernel) ⟨Nat.le_of_ble_eq_true rfl, Nat.le_of_ble_eq_true rfl⟩ (hR.2.2.2.1 _ hi_105).1 rfl rfl rfl hl.1 rfl (Nat.le_of_ble_eq_true rfl) dX2_figure_18 ⟨Nat.le_of_ble_eq_true rfl, Nat.le_of_ble_eq_true rfl⟩ (fun v g2 H1 locs1 hp hW hKT => ?_)
    obtain ⟨rfl, hg⟩ := hp
    rw [hg] at hW
    refine W.eq (g2 := F0 m 21 ls [.int (bI (hasN r (ix (a)) (b)))]) rfl ?_
    refine lv_if_ne (tgt := 27) hx hb dX2_figure_21 (by decide) (fun c_106 => ?_) (fun c_106 => ?_)
    · skip
      have c_106 := bI_ne0 c_106
      refine lv_aload hx hb dX2_figure_27 (lv_at hl 0 rfl) ?_
      refine hm_get hx hb hts hown hK hW hR hi_105 4 (by decide) fl_RX2_45 (v := .ref (pa (ix (a)))) rfl dX2_figure_29 ?_
      refine lv_iload_n hx hb dX2_figure_32 rfl (lv_at hl 3 rfl) ?_
      refine lv_aload hx hb dX2_figure_33 (lv_at hl 0 rfl) ?_
      refine lv_iload_n hx hb dX2_figure_35 rfl (lv_at hl 4 rfl) ?_
      refine c_virt (own := RX2) (As := [.int (d)]) (rest := [.int (b), .ref (pa (ix (a)))]) hx hb hml hown hts hK hW (k_X1_lowestBits l hR hi_105 _) ml_RX2_52 im_yX1_lowestBits se_yX1_lowestBits in_RX1 cd_yX1_lowestBits 1 (by decide +kernel) ⟨Nat.le_of_ble_eq_true rfl, Nat.le_of_ble_eq_true rfl⟩ (hR.2.2.2.1 _ hi_105).1 rfl rfl rfl hl.1 rfl (Nat.le_of_ble_eq_true rfl) dX2_figure_36 ⟨Nat.le_of_ble_eq_true rfl, Nat.le_of_ble_eq_true rfl⟩ (fun v g2 H1 locs1 hp hW hKT => ?_)
      obtain ⟨rfl, hg⟩ := hp
      rw [hg] at hW
      refine W.eq (g2 := F0 m 39 ls [.int (lowI (r 0 (ix (a))) (d)), .int (b), .ref (pa (ix (a)))]) rfl ?_
      refine hp_ast hx hb hK hW hR hi_105 (hasN_lt c_106).1 (hasN_lt c_106).2 dX2_figure_39 (fun H1 locs1 g1 hW hR => ?_)
      refine lv_iconst (v := 1) hx hb dX2_figure_40 (by decide) ?_
      exact r_int hx hb hr hlk hW (by have e1 : Ffigure r a b d = (1, s2 r 4 (8 * (ix (a)) + ix b) (lowI (r 0 (ix (a))) (d))) := (by first | (simp [Ffigure, em_104, nhi_105, c_106]; done) | (simp_all [Ffigure]; done)); rw [e1]; exact ⟨rfl, hR⟩) (Nat.le_of_ble_eq_true rfl) (Nat.le_of_ble_eq_true rfl) dX2_figure_41
    · skip
      have c_106 := (bI_eq0 _).mp c_106
      refine lv_bipush (v := -5) hx hb dX2_figure_24 (by decide) ?_
      exact r_int hx hb hr hlk hW (by have e1 : Ffigure r a b d = (-5, r) := (by first | (simp [Ffigure, em_104, nhi_105, c_106]; done) | (simp_all [Ffigure]; done)); rw [e1]; exact ⟨rfl, hR⟩) (Nat.le_of_ble_eq_true rfl) (Nat.le_of_ble_eq_true rfl) dX2_figure_26

set_option maxHeartbeats 4000000 in
set_option maxRecDepth 100000 in
theorem k_X2_job (l : Launch) {E : gE} {x xa xk : Nat} {ma pa ka : Nat → Nat} {z : Bool} {r : sg} {g : gm} (hR : HR E x xa xk ma pa ka z r g) (a b d f q : Int32) : CM l yX2_job cX2_job 7 (some .int) ({ frames := 2, cells := 0, slots := 0, locals := 42 }) E [.ref (x), .int (a), .int (b), .int (d), .int (f), .int (q)] g (fun vv g' => vv = some (.int (Fjob r a b d f q).1) ∧ HR E x xa xk ma pa ka z (Fjob r a b d f q).2 g') := by
  refine CM.of (by decide) (Nat.le_of_ble_eq_true rfl) ?_
  intro p e s m below meth c ls hM hK hW hl
  obtain ⟨hx, hb, hr, hml, hown, hts, hlk, hnm⟩ := hM
  have hown : s.vm.findClass RX2 = some m.cls := hown
  have hl : lv_has ls 7 [(0, .ref (x)), (1, .int (a)), (2, .int (b)), (3, .int (d)), (4, .int (f)), (5, .int (q))] := hl
  refine lv_aload_n hx hb dX2_job_0 rfl (lv_at hl 0 rfl) ?_
  refine lv_iload_n hx hb dX2_job_1 rfl (lv_at hl 1 rfl) ?_
  refine c_virt (own := RX2) (As := [.int (a)]) (rest := []) hx hb hml hown hts hK hW (k_X2_counterAt l hR (a)) ml_RX2_82 im_yX2_counterAt se_yX2_counterAt in_RX2 cd_yX2_counterAt 1 (by decide +kernel) ⟨Nat.le_of_ble_eq_true rfl, Nat.le_of_ble_eq_true rfl⟩ hR.1 rfl rfl rfl hl.1 rfl (Nat.le_of_ble_eq_true rfl) dX2_job_2 ⟨Nat.le_of_ble_eq_true rfl, Nat.le_of_ble_eq_true rfl⟩ (fun v g2 H1 locs1 hp hW hKT => ?_)
  obtain ⟨hp, hg⟩ := hp
  rw [hg] at hW
  rcases hp with ⟨em_107, rfl⟩ | ⟨em_108, rfl⟩
  · skip
    refine W.eq (g2 := F0 m 5 ls [.null]) rfl ?_
    refine lv_astoreN (lv' := [(6, .null), (0, .ref (x)), (1, .int (a)), (2, .int (b)), (3, .int (d)), (4, .int (f)), (5, .int (q))]) hx hb dX2_job_5 hl (by decide) rfl (fun ls hl => ?_)
    refine lv_aloadN hx hb dX2_job_7 (lv_at hl 0 rfl) ?_
    refine lv_ifnullN (tgt := 21) hx hb dX2_job_9 (by decide) ?_
    refine lv_bipush (v := -2) hx hb dX2_job_21 (by decide) ?_
    exact r_int hx hb hr hlk hW (by have e1 : Fjob r a b d f q = (-2, r) := (by first | (simp [Fjob, isMb_n1, em_107]; done) | (simp_all [Fjob, isMb_n1]; done)); rw [e1]; exact ⟨rfl, hR⟩) (Nat.le_of_ble_eq_true rfl) (Nat.le_of_ble_eq_true rfl) dX2_job_23
  · skip
    have hk_109 := isCb_lt em_108
    have hs_110 := isCb_s em_108
    refine W.eq (g2 := F0 m 5 ls [.ref (ka (ix (a)))]) rfl ?_
    refine lv_astore (lv' := [(6, .ref (ka (ix (a)))), (0, .ref (x)), (1, .int (a)), (2, .int (b)), (3, .int (d)), (4, .int (f)), (5, .int (q))]) hx hb dX2_job_5 hl (by decide) rfl (fun ls hl => ?_)
    refine lv_aload hx hb dX2_job_7 (lv_at hl 0 rfl) ?_
    refine lv_ifnull hx hb dX2_job_9 ?_
    refine lv_aload hx hb dX2_job_12 (lv_at hl 0 rfl) ?_
    refine lv_iload_n hx hb dX2_job_14 rfl (lv_at hl 3 rfl) ?_
    refine c_virt (own := RX2) (As := [.int (b)]) (rest := []) hx hb hml hown hts hK hW (k_X0_canDo l hR hk_109 hs_110 _) ml_RX2_86 im_yX0_canDo se_yX0_canDo in_RX0 cd_yX0_canDo 1 (by decide +kernel) ⟨Nat.le_of_ble_eq_true rfl, Nat.le_of_ble_eq_true rfl⟩ (hR.2.2.2.2.1 _ hk_109 hs_110) rfl rfl rfl hl.1 rfl (Nat.le_of_ble_eq_true rfl) dX2_job_15 ⟨Nat.le_of_ble_eq_true rfl, Nat.le_of_ble_eq_true rfl⟩ (fun v g2 H1 locs1 hp hW hKT => ?_)
    obtain ⟨rfl, hg⟩ := hp
    rw [hg] at hW
    refine W.eq (g2 := F0 m 18 ls [.int (bI (canB r (ix (a)) (b)))]) rfl ?_
    refine lv_if_ne (tgt := 24) hx hb dX2_job_18 (by decide) (fun c_111 => ?_) (fun c_111 => ?_)
    · skip
      have c_111 := bI_ne0 c_111
      refine lv_iload hx hb dX2_job_24 (lv_at hl 5 rfl) ?_
      refine lv_iconst (v := -1) hx hb dX2_job_26 (by decide) ?_
      refine lv_icmp_eq (tgt := 39) hx hb dX2_job_27 (by decide) (fun c_112 => ?_) (fun c_112 => ?_)
      · skip
        refine lv_iload hx hb dX2_job_39 (lv_at hl 6 rfl) ?_
        refine lv_if_lt (tgt := 50) hx hb dX2_job_41 (by decide) (fun c_113 => ?_) (fun c_113 => ?_)
        · skip
          refine lv_bipush (v := -2) hx hb dX2_job_50 (by decide) ?_
          exact r_int hx hb hr hlk hW (by have e1 : Fjob r a b d f q = (-2, r) := (by first | (simp [Fjob, isMb_n1, em_108, c_111, c_112, c_113]; done) | (simp_all [Fjob, isMb_n1]; done)); rw [e1]; exact ⟨rfl, hR⟩) (Nat.le_of_ble_eq_true rfl) (Nat.le_of_ble_eq_true rfl) dX2_job_52
        · skip
          refine lv_iload hx hb dX2_job_44 (lv_at hl 6 rfl) ?_
          refine lv_iconst (v := 1) hx hb dX2_job_46 (by decide) ?_
          refine lv_icmp_le (tgt := 53) hx hb dX2_job_47 (by decide) (fun c_114 => ?_) (fun c_114 => ?_)
          · skip
            have c_114 := Int32.not_lt.mpr c_114
            refine lv_aload hx hb dX2_job_53 (lv_at hl 0 rfl) ?_
            refine lv_iload_n hx hb dX2_job_55 rfl (lv_at hl 3 rfl) ?_
            refine hk_put 12 hx hb hts hown hK hW hR hk_109 hs_110 5 (by decide) fl_RX2_89 rfl rfl rfl (by decide) (by simp [s2_a]) dX2_job_56 (fun H1 locs1 g1 hW hR => ?_)
            refine lv_aload hx hb dX2_job_59 (lv_at hl 0 rfl) ?_
            refine lv_iload_n hx hb dX2_job_61 rfl (lv_at hl 4 rfl) ?_
            refine hk_put 13 hx hb hts hown hK hW hR hk_109 hs_110 6 (by decide) fl_RX2_92 rfl rfl rfl (by decide) (by simp [s2_a]) dX2_job_62 (fun H1 locs1 g1 hW hR => ?_)
            refine lv_aload hx hb dX2_job_65 (lv_at hl 0 rfl) ?_
            refine lv_iload hx hb dX2_job_67 (lv_at hl 5 rfl) ?_
            refine hk_put 14 hx hb hts hown hK hW hR hk_109 hs_110 7 (by decide) fl_RX2_95 rfl rfl rfl (by decide) (by simp [s2_a]) dX2_job_69 (fun H1 locs1 g1 hW hR => ?_)
            refine lv_aload hx hb dX2_job_72 (lv_at hl 0 rfl) ?_
            refine lv_iload hx hb dX2_job_74 (lv_at hl 6 rfl) ?_
            refine lv_iconst (v := 1) hx hb dX2_job_76 (by decide) ?_
            refine lv_icmp_ne (tgt := 84) hx hb dX2_job_77 (by decide) (fun c_115 => ?_) (fun c_115 => ?_)
            · skip
              refine lv_iconst (v := 0) hx hb dX2_job_84 (by decide) ?_
              refine hk_put 7 hx hb hts hown hK hW hR hk_109 hs_110 8 (by decide) fl_RX2_98 rfl rfl rfl (by decide) (by simp [s2_a]) dX2_job_85 (fun H1 locs1 g1 hW hR => ?_)
              refine lv_iconst (v := 1) hx hb dX2_job_88 (by decide) ?_
              exact r_int hx hb hr hlk hW (by have e1 : Fjob r a b d f q = (1, s2 (s2 (s2 (s2 r 12 (ix (a)) (b)) 13 (ix (a)) (d)) 14 (ix (a)) (f)) 7 (ix (a)) (0)) := (by first | (simp [Fjob, isMb_n1, em_108, c_111, c_112, c_113, c_114, c_115]; done) | (simp_all [Fjob, isMb_n1]; done)); rw [e1]; exact ⟨rfl, hR⟩) (Nat.le_of_ble_eq_true rfl) (Nat.le_of_ble_eq_true rfl) dX2_job_89
            · skip
              refine lv_iconst (v := 1) hx hb dX2_job_80 (by decide) ?_
              refine lv_goto (tgt := 85) hx hb dX2_job_81 (by decide) ?_
              refine hk_put 7 hx hb hts hown hK hW hR hk_109 hs_110 8 (by decide) fl_RX2_98 rfl rfl rfl (by decide) (by simp [s2_a]) dX2_job_85 (fun H1 locs1 g1 hW hR => ?_)
              refine lv_iconst (v := 1) hx hb dX2_job_88 (by decide) ?_
              exact r_int hx hb hr hlk hW (by have e1 : Fjob r a b d f q = (1, s2 (s2 (s2 (s2 r 12 (ix (a)) (b)) 13 (ix (a)) (d)) 14 (ix (a)) (f)) 7 (ix (a)) (1)) := (by first | (simp [Fjob, isMb_n1, em_108, c_111, c_112, c_113, c_114, c_115]; done) | (simp_all [Fjob, isMb_n1]; done)); rw [e1]; exact ⟨rfl, hR⟩) (Nat.le_of_ble_eq_true rfl) (Nat.le_of_ble_eq_true rfl) dX2_job_89
          · skip
            have c_114 := Int32.not_le.mp c_114
            refine lv_bipush (v := -2) hx hb dX2_job_50 (by decide) ?_
            exact r_int hx hb hr hlk hW (by have e1 : Fjob r a b d f q = (-2, r) := (by first | (simp [Fjob, isMb_n1, em_108, c_111, c_112, c_113, c_114]; done) | (simp_all [Fjob, isMb_n1]; done)); rw [e1]; exact ⟨rfl, hR⟩) (Nat.le_of_ble_eq_true rfl) (Nat.le_of_ble_eq_true rfl) dX2_job_52
      · skip
        refine lv_aload_n hx hb dX2_job_30 rfl (lv_at hl 1 rfl) ?_
        refine lv_iload hx hb dX2_job_31 (lv_at hl 5 rfl) ?_
        refine c_virt (own := RX2) (As := [.int (f)]) (rest := []) hx hb hml hown hts hK hW (k_X2_messageAt l hR (f)) ml_RX2_33 im_yX2_messageAt se_yX2_messageAt in_RX2 cd_yX2_messageAt 1 (by decide +kernel) ⟨Nat.le_of_ble_eq_true rfl, Nat.le_of_ble_eq_true rfl⟩ hR.1 rfl rfl rfl hl.1 rfl (Nat.le_of_ble_eq_true rfl) dX2_job_33 ⟨Nat.le_of_ble_eq_true rfl, Nat.le_of_ble_eq_true rfl⟩ (fun v g2 H1 locs1 hp hW hKT => ?_)
        obtain ⟨hp, hg⟩ := hp
        rw [hg] at hW
        rcases hp with ⟨em_116, rfl⟩ | ⟨em_117, rfl⟩
        · skip
          refine W.eq (g2 := F0 m 36 ls [.null]) rfl ?_
          refine lv_ifnullN (tgt := 50) hx hb dX2_job_36 (by decide) ?_
          refine lv_bipush (v := -2) hx hb dX2_job_50 (by decide) ?_
          exact r_int hx hb hr hlk hW (by have e1 : Fjob r a b d f q = (-2, r) := (by first | (simp [Fjob, isMb_n1, em_108, c_111, c_112, em_116]; done) | (simp_all [Fjob, isMb_n1]; done)); rw [e1]; exact ⟨rfl, hR⟩) (Nat.le_of_ble_eq_true rfl) (Nat.le_of_ble_eq_true rfl) dX2_job_52
        · skip
          have hi_118 := isMb_lt em_117
          have nhi_118 := isMb_ne em_117
          refine W.eq (g2 := F0 m 36 ls [.ref (ma (ix (f)))]) rfl ?_
          refine lv_ifnull hx hb dX2_job_36 ?_
          refine lv_iload hx hb dX2_job_39 (lv_at hl 6 rfl) ?_
          refine lv_if_lt (tgt := 50) hx hb dX2_job_41 (by decide) (fun c_119 => ?_) (fun c_119 => ?_)
          · skip
            refine lv_bipush (v := -2) hx hb dX2_job_50 (by decide) ?_
            exact r_int hx hb hr hlk hW (by have e1 : Fjob r a b d f q = (-2, r) := (by first | (simp [Fjob, isMb_n1, em_108, c_111, c_112, em_117, nhi_118, c_119]; done) | (simp_all [Fjob, isMb_n1]; done)); rw [e1]; exact ⟨rfl, hR⟩) (Nat.le_of_ble_eq_true rfl) (Nat.le_of_ble_eq_true rfl) dX2_job_52
          · skip
            refine lv_iload hx hb dX2_job_44 (lv_at hl 6 rfl) ?_
            refine lv_iconst (v := 1) hx hb dX2_job_46 (by decide) ?_
            refine lv_icmp_le (tgt := 53) hx hb dX2_job_47 (by decide) (fun c_120 => ?_) (fun c_120 => ?_)
            · skip
              have c_120 := Int32.not_lt.mpr c_120
              refine lv_aload hx hb dX2_job_53 (lv_at hl 0 rfl) ?_
              refine lv_iload_n hx hb dX2_job_55 rfl (lv_at hl 3 rfl) ?_
              refine hk_put 12 hx hb hts hown hK hW hR hk_109 hs_110 5 (by decide) fl_RX2_89 rfl rfl rfl (by decide) (by simp [s2_a]) dX2_job_56 (fun H1 locs1 g1 hW hR => ?_)
              refine lv_aload hx hb dX2_job_59 (lv_at hl 0 rfl) ?_
              refine lv_iload_n hx hb dX2_job_61 rfl (lv_at hl 4 rfl) ?_
              refine hk_put 13 hx hb hts hown hK hW hR hk_109 hs_110 6 (by decide) fl_RX2_92 rfl rfl rfl (by decide) (by simp [s2_a]) dX2_job_62 (fun H1 locs1 g1 hW hR => ?_)
              refine lv_aload hx hb dX2_job_65 (lv_at hl 0 rfl) ?_
              refine lv_iload hx hb dX2_job_67 (lv_at hl 5 rfl) ?_
              refine hk_put 14 hx hb hts hown hK hW hR hk_109 hs_110 7 (by decide) fl_RX2_95 rfl rfl rfl (by decide) (by simp [s2_a]) dX2_job_69 (fun H1 locs1 g1 hW hR => ?_)
              refine lv_aload hx hb dX2_job_72 (lv_at hl 0 rfl) ?_
              refine lv_iload hx hb dX2_job_74 (lv_at hl 6 rfl) ?_
              refine lv_iconst (v := 1) hx hb dX2_job_76 (by decide) ?_
              refine lv_icmp_ne (tgt := 84) hx hb dX2_job_77 (by decide) (fun c_121 => ?_) (fun c_121 => ?_)
              · skip
                refine lv_iconst (v := 0) hx hb dX2_job_84 (by decide) ?_
                refine hk_put 7 hx hb hts hown hK hW hR hk_109 hs_110 8 (by decide) fl_RX2_98 rfl rfl rfl (by decide) (by simp [s2_a]) dX2_job_85 (fun H1 locs1 g1 hW hR => ?_)
                refine lv_iconst (v := 1) hx hb dX2_job_88 (by decide) ?_
                exact r_int hx hb hr hlk hW (by have e1 : Fjob r a b d f q = (1, s2 (s2 (s2 (s2 r 12 (ix (a)) (b)) 13 (ix (a)) (d)) 14 (ix (a)) (f)) 7 (ix (a)) (0)) := (by first | (simp [Fjob, isMb_n1, em_108, c_111, c_112, em_117, nhi_118, c_119, c_120, c_121]; done) | (simp_all [Fjob, isMb_n1]; done)); rw [e1]; exact ⟨rfl, hR⟩) (Nat.le_of_ble_eq_true rfl) (Nat.le_of_ble_eq_true rfl) dX2_job_89
              · skip
                refine lv_iconst (v := 1) hx hb dX2_job_80 (by decide) ?_
                refine lv_goto (tgt := 85) hx hb dX2_job_81 (by decide) ?_
                refine hk_put 7 hx hb hts hown hK hW hR hk_109 hs_110 8 (by decide) fl_RX2_98 rfl rfl rfl (by decide) (by simp [s2_a]) dX2_job_85 (fun H1 locs1 g1 hW hR => ?_)
                refine lv_iconst (v := 1) hx hb dX2_job_88 (by decide) ?_
                exact r_int hx hb hr hlk hW (by have e1 : Fjob r a b d f q = (1, s2 (s2 (s2 (s2 r 12 (ix (a)) (b)) 13 (ix (a)) (d)) 14 (ix (a)) (f)) 7 (ix (a)) (1)) := (by first | (simp [Fjob, isMb_n1, em_108, c_111, c_112, em_117, nhi_118, c_119, c_120, c_121]; done) | (simp_all [Fjob, isMb_n1]; done)); rw [e1]; exact ⟨rfl, hR⟩) (Nat.le_of_ble_eq_true rfl) (Nat.le_of_ble_eq_true rfl) dX2_job_89
            · skip
              have c_120 := Int32.not_le.mp c_120
              refine lv_bipush (v := -2) hx hb dX2_job_50 (by decide) ?_
              exact r_int hx hb hr hlk hW (by have e1 : Fjob r a b d f q = (-2, r) := (by first | (simp [Fjob, isMb_n1, em_108, c_111, c_112, em_117, nhi_118, c_119, c_120]; done) | (simp_all [Fjob, isMb_n1]; done)); rw [e1]; exact ⟨rfl, hR⟩) (Nat.le_of_ble_eq_true rfl) (Nat.le_of_ble_eq_true rfl) dX2_job_52
    · skip
      have c_111 := (bI_eq0 _).mp c_111
      refine lv_bipush (v := -2) hx hb dX2_job_21 (by decide) ?_
      exact r_int hx hb hr hlk hW (by have e1 : Fjob r a b d f q = (-2, r) := (by first | (simp [Fjob, isMb_n1, em_108, c_111]; done) | (simp_all [Fjob, isMb_n1]; done)); rw [e1]; exact ⟨rfl, hR⟩) (Nat.le_of_ble_eq_true rfl) (Nat.le_of_ble_eq_true rfl) dX2_job_23

set_option maxHeartbeats 4000000 in
set_option maxRecDepth 100000 in
theorem k_X2_shut (l : Launch) {E : gE} {x xa xk : Nat} {ma pa ka : Nat → Nat} {z : Bool} {r : sg} {g : gm} (hR : HR E x xa xk ma pa ka z r g) (a : Int32) (b : Bool) : CM l yX2_shut cX2_shut 5 (some .int) ({ frames := 1, cells := 0, slots := 0, locals := 21 }) E [.ref (x), .int (a), .int (bI b)] g (fun vv g' => vv = some (.int (Fshut r a b).1) ∧ HR E x xa xk ma pa ka z (Fshut r a b).2 g') := by
  refine CM.of (by decide) (Nat.le_of_ble_eq_true rfl) ?_
  intro p e s m below meth c ls hM hK hW hl
  obtain ⟨hx, hb, hr, hml, hown, hts, hlk, hnm⟩ := hM
  have hown : s.vm.findClass RX2 = some m.cls := hown
  have hl : lv_has ls 5 [(0, .ref (x)), (1, .int (a)), (2, .int (bI b))] := hl
  refine lv_aload_n hx hb dX2_shut_0 rfl (lv_at hl 0 rfl) ?_
  refine lv_iload_n hx hb dX2_shut_1 rfl (lv_at hl 1 rfl) ?_
  refine c_virt (own := RX2) (As := [.int (a)]) (rest := []) hx hb hml hown hts hK hW (k_X2_counterAt l hR (a)) ml_RX2_82 im_yX2_counterAt se_yX2_counterAt in_RX2 cd_yX2_counterAt 1 (by decide +kernel) ⟨Nat.le_of_ble_eq_true rfl, Nat.le_of_ble_eq_true rfl⟩ hR.1 rfl rfl rfl hl.1 rfl (Nat.le_of_ble_eq_true rfl) dX2_shut_2 ⟨Nat.le_of_ble_eq_true rfl, Nat.le_of_ble_eq_true rfl⟩ (fun v g2 H1 locs1 hp hW hKT => ?_)
  obtain ⟨hp, hg⟩ := hp
  rw [hg] at hW
  rcases hp with ⟨em_122, rfl⟩ | ⟨em_123, rfl⟩
  · skip
    refine W.eq (g2 := F0 m 5 ls [.null]) rfl ?_
    refine lv_astore_nN (lv' := [(3, .null), (0, .ref (x)), (1, .int (a)), (2, .int (bI b))]) hx hb dX2_shut_5 rfl hl (by decide) rfl (fun ls hl => ?_)
    refine lv_aload_nN hx hb dX2_shut_6 rfl (lv_at hl 0 rfl) ?_
    refine lv_ifnonnullN hx hb dX2_shut_7 ?_
    refine lv_bipush (v := -2) hx hb dX2_shut_10 (by decide) ?_
    exact r_int hx hb hr hlk hW (by have e1 : Fshut r a b = (-2, r) := (by first | (simp [Fshut, em_122]; done) | (simp_all [Fshut]; done)); rw [e1]; exact ⟨rfl, hR⟩) (Nat.le_of_ble_eq_true rfl) (Nat.le_of_ble_eq_true rfl) dX2_shut_12
  · skip
    have hk_124 := isCb_lt em_123
    have hs_125 := isCb_s em_123
    refine W.eq (g2 := F0 m 5 ls [.ref (ka (ix (a)))]) rfl ?_
    refine lv_astore_n (lv' := [(3, .ref (ka (ix (a)))), (0, .ref (x)), (1, .int (a)), (2, .int (bI b))]) hx hb dX2_shut_5 rfl hl (by decide) rfl (fun ls hl => ?_)
    refine lv_aload_n hx hb dX2_shut_6 rfl (lv_at hl 0 rfl) ?_
    refine lv_ifnonnull (tgt := 13) hx hb dX2_shut_7 (by decide) ?_
    refine lv_aload_n hx hb dX2_shut_13 rfl (lv_at hl 0 rfl) ?_
    refine hk_get hx hb hts hown hK hW hR hk_124 hs_125 9 (by decide) fl_RX2_102 (v := .int (r 6 (ix (a)))) rfl dX2_shut_14 ?_
    refine c_stat (own := RX2) (As := [.int (r 6 (ix (a)))]) (rest := []) hx hb hml hown hts hK hW (k_X2_asInt l _) ml_RX2_65 st_yX2_asInt in_RX2 cd_yX2_asInt 1 (by decide +kernel) ⟨Nat.le_of_ble_eq_true rfl, Nat.le_of_ble_eq_true rfl⟩ rfl hl.1 rfl (Nat.le_of_ble_eq_true rfl) dX2_shut_17 ⟨Nat.le_of_ble_eq_true rfl, Nat.le_of_ble_eq_true rfl⟩ (fun v g2 H1 locs1 hp hW hKT => ?_)
    obtain ⟨rfl, hg⟩ := hp
    rw [hg] at hW
    refine W.eq (g2 := F0 m 20 ls [.int (asI (r 6 (ix (a))))]) rfl ?_
    refine lv_istore (lv' := [(4, .int (asI (r 6 (ix (a))))), (3, .ref (ka (ix (a)))), (0, .ref (x)), (1, .int (a)), (2, .int (bI b))]) hx hb dX2_shut_20 hl (by decide) rfl (fun ls hl => ?_)
    refine lv_aload_n hx hb dX2_shut_22 rfl (lv_at hl 1 rfl) ?_
    refine lv_iload_n hx hb dX2_shut_23 rfl (lv_at hl 4 rfl) ?_
    refine hk_put 6 hx hb hts hown hK hW hR hk_124 hs_125 9 (by decide) fl_RX2_102 rfl (nb_bI _) (fb_bI _) (by decide) (by simp [s2_a]) dX2_shut_24 (fun H1 locs1 g1 hW hR => ?_)
    refine lv_iload hx hb dX2_shut_27 (lv_at hl 0 rfl) ?_
    exact r_int hx hb hr hlk hW (by have e1 : Fshut r a b = (asI (r 6 (ix (a))), s2 r 6 (ix (a)) (bI b)) := (by first | (simp [Fshut, em_123]; done) | (simp_all [Fshut]; done)); rw [e1]; exact ⟨rfl, hR⟩) (Nat.le_of_ble_eq_true rfl) (Nat.le_of_ble_eq_true rfl) dX2_shut_29
end
section
theorem gu_gu (g : gm) (a : Nat) (e e' : va_E) : gu (gu g a e) a e' = gu g a e' := by
  funext b
  by_cases h : b = a <;> simp [gu, h]
theorem gu_id {g : gm} {a : Nat} {e : va_E} (h : g a = some e) : gu g a e = g := by
  funext b
  by_cases hb : b = a
  · rw [hb, gu_s, h]
  · rw [gu_n _ _ hb]
def filF (f : Nat → Int32) (v : Int32) (n : Nat) : Nat → Int32 := fun j => if j < n then v else f j
theorem filF_0 (f : Nat → Int32) (v : Int32) : filF f v 0 = f := by
  funext j
  simp [filF]
theorem filF_s (f : Nat → Int32) (v : Int32) (i : Nat) (hi : i < 2 ^ 31) : upd (filF f v i) (Int32.toNatClampNeg (nI i)) v = filF f v (i + 1) := by
  rw [nI_clamp hi]
  funext j
  by_cases h : j = i
  · simp [upd, filF, h]
  · by_cases h2 : j < i
    · simp [upd, filF, h, h2, Nat.lt_succ_of_lt h2]
    · simp [upd, filF, h, h2, show ¬ j < i + 1 by omega]

set_option maxHeartbeats 4000000 in
set_option maxRecDepth 100000 in
theorem k_X1_fill (l : Launch) {E : gE} {g : gm} {h0 q n : Nat} {v0 v1 v2 v3 v5 : Value} {f : Nat → Int32} (hh : g h0 = some (.inr (1, [v0, v1, v2, v3, .ref q, v5]))) (hq : g q = some (.inl (E.2 0, n, .inl f))) (hn : n < 2 ^ 31) (v : Int32) : CM l yX1_fill cX1_fill 3 none ({ frames := 0, cells := 0, slots := 0, locals := 0 }) E [.ref (h0), .int (v)] g (fun vv g' => vv = none ∧ g' = gu g q (.inl (E.2 0, n, .inl (filF f v n)))) := by
  refine CM.of (by decide) (Nat.le_of_ble_eq_true rfl) ?_
  intro p e s m below meth c ls hM hK hW hl
  obtain ⟨hx, hb, hr, hml, hown, hts, hlk, hnm⟩ := hM
  have hown : s.vm.findClass RX1 = some m.cls := hown
  have hl : lv_has ls 3 [(0, .ref (h0)), (1, .int (v))] := hl
  have hne : h0 ≠ q := ne_kd hh hq (by simp [kd])
  have loop : ∀ (k i : Nat), n < i + k → i ≤ n → ∀ (H : Heap) (locs : List Loc) (ls : Array Slot), PW E (fr g s.heap.size) s.heap H locs (gu g q (.inl (E.2 0, n, .inl (filF f v i)))) → lv_has ls 3 [(2, .int (nI i)), (0, .ref (h0)), (1, .int (v))] → W p l e ({ frames := 0, cells := 0, slots := 0, locals := 0 }) s m ([.ref (h0), .int (v)] : List Value).toArray below meth c H locs 0 0 (MQ below (QC E g s.heap.size (fun vv g' => vv = none ∧ g' = gu g q (.inl (E.2 0, n, .inl (filF f v n))))) ([.ref (h0), .int (v)] : List Value).toArray s (Room.cells ({ frames := 0, cells := 0, slots := 0, locals := 0 })) (Room.slots ({ frames := 0, cells := 0, slots := 0, locals := 0 })) (fr g s.heap.size)) (F0 m 2 ls []) := by
    intro k
    induction k with
    | zero =>
      intro i h1 h2
      exact absurd h1 (by omega)
    | succ k ih =>
      intro i h1 h2 H locs ls hW hl
      have hhG : (gu g q (.inl (E.2 0, n, .inl (filF f v i)))) h0 = some (.inr (1, [v0, v1, v2, v3, .ref q, v5])) := (gu_n _ _ hne).trans hh
      have hqG : (gu g q (.inl (E.2 0, n, .inl (filF f v i)))) q = some (.inl (E.2 0, n, .inl (filF f v i))) := gu_s _ _ _
      refine lv_iload_n hx hb dX1_fill_2 rfl (lv_at hl 0 rfl) ?_
      refine lv_aload_n hx hb dX1_fill_3 rfl (lv_at hl 1 rfl) ?_
      refine g_get hx hb hts inlX1 rfl hown hK hW hhG 4 (by decide) fl_RX1_29 (v := .ref (q)) rfl dX1_fill_4 ?_
      refine g_alen hx hb hK hW hqG dX1_fill_7 ?_
      refine lv_icmp_ge (tgt := 24) hx hb dX1_fill_8 (by decide) (fun c_126 => ?_) (fun c_126 => ?_)
      · skip
        have c_126 := Int32.not_lt.mpr c_126
        have hin : i = n := by
          rcases Nat.lt_or_ge i n with q1 | q1
          · exact absurd (nI_lt q1 hn) c_126
          · omega
        exact r_void hx hb hr hlk hW (by exact ⟨rfl, by rw [hin]⟩) (Nat.le_of_ble_eq_true rfl) (Nat.le_of_ble_eq_true rfl) dX1_fill_24
      · skip
        have c_126 := Int32.not_le.mp c_126
        have hin : i < n := (nI_ltI (by omega) hn).mp c_126
        refine lv_aload_n hx hb dX1_fill_11 rfl (lv_at hl 1 rfl) ?_
        refine g_get hx hb hts inlX1 rfl hown hK hW hhG 4 (by decide) fl_RX1_29 (v := .ref (q)) rfl dX1_fill_12 ?_
        refine lv_iload_n hx hb dX1_fill_15 rfl (lv_at hl 0 rfl) ?_
        refine lv_iload_n hx hb dX1_fill_16 rfl (lv_at hl 2 rfl) ?_
        refine g_iast hx hb hK hW hqG (vp_in_nI hin hn) dX1_fill_17 (fun H1 locs1 hW => ?_)
        rw [gu_gu, filF_s f v i (by omega)] at hW
        refine lv_iinc (v := (nI i) + (1)) (lv' := [(2, .int ((nI i) + (1))), (0, .ref (h0)), (1, .int (v))]) hx hb dX1_fill_18 hl (k := 0) rfl rfl (by decide) rfl (fun ls hl => ?_)
        refine lv_goto (tgt := 2) hx hb dX1_fill_21 (by decide) ?_
        exact ih (i + 1) (by omega) (by omega) _ _ _ hW (by rw [← nI_1]; exact lv_sub hl [0, 1, 2] rfl)
  refine lv_iconst (v := 0) hx hb dX1_fill_0 (by decide) ?_
  refine lv_istore_n (lv' := [(2, .int (0)), (0, .ref (h0)), (1, .int (v))]) hx hb dX1_fill_1 rfl hl (by decide) rfl (fun ls hl => ?_)
  exact loop (n + 1) 0 (by omega) (by omega) _ _ _ (by rw [filF_0, gu_id hq]; exact hW) (lv_sub hl [0, 1, 2] rfl)

set_option maxHeartbeats 4000000 in
set_option maxRecDepth 100000 in
theorem k_X1_init (l : Launch) {E : gE} {g : gm} {h0 : Nat} (hh : g h0 = some (.inr (1, [.int 0, .int 0, .int 0, .int 0, .null, .int 0]))) (a0 a1 a2 : Int32) {n : Int32} (hn : ¬ n < 0) (hn8 : ix n ≤ 8) : CM l yX1_init cX1_init 5 none ({ frames := 2, cells := 1, slots := 8, locals := 60 }) E [.ref (h0), .int (a0), .int (a1), .int (a2), .int (n)] g (fun vv g' => vv = none ∧ ∃ (q : Nat) (f : Nat → Int32), g' h0 = some (.inr (1, [.int a0, .int a1, .int a2, .int (bI (figB a1 a2)), .ref q, .int 0])) ∧ g' q = some (.inl (E.2 0, ix n, .inl f)) ∧ g q = none ∧ (∀ j, j < ix n → f j = if figB a1 a2 then 0 else -1) ∧ ∀ a, a ≠ h0 → a ≠ q → g' a = g a) := by
  refine CM.of (by decide) (Nat.le_of_ble_eq_true rfl) ?_
  intro p e s m below meth c ls hM hK hW hl
  obtain ⟨hx, hb, hr, hml, hown, hts, hlk, hnm⟩ := hM
  have hown : s.vm.findClass RX1 = some m.cls := hown
  have hl : lv_has ls 5 [(0, .ref (h0)), (1, .int (a0)), (2, .int (a1)), (3, .int (a2)), (4, .int (n))] := hl
  have hoth : ∀ a, a ≠ h0 → g a = g a := fun a ha => rfl
  refine lv_aload_n hx hb dX1_init_0 rfl (lv_at hl 0 rfl) ?_
  refine W.objInit hx hb hown (hts _ ml_RX1_3) (hts _ im_objectInit) (hts _ cd_objectInit) rfl (by rw [hml]; exact hl.1) rfl dX1_init_1 (Nat.le_of_ble_eq_true rfl) (Nat.le_of_ble_eq_true rfl) ?_
  refine W.eq (g2 := F0 m 4 ls []) rfl ?_
  refine lv_aload_n hx hb dX1_init_4 rfl (lv_at hl 0 rfl) ?_
  refine lv_iload_n hx hb dX1_init_5 rfl (lv_at hl 1 rfl) ?_
  refine g_putF hx hb hts inlX1 rfl tyX1 tyX1_ok nmX1 hown hK hW hh 0 (by decide) fl_RX1_9 rfl hnm rfl rfl rfl (show 0 < 6 by decide) dX1_init_6 (fun H1 locs1 hW => ?_)
  obtain ⟨g_128, ge_129⟩ : ∃ z, z = gu g h0 (.inr (1, [.int (a0), .int (0), .int (0), .int (0), .null, .int (0)])) := ⟨_, rfl⟩
  have hW : PW E (fr g s.heap.size) s.heap H1 locs1 g_128 := by rw [ge_129]; exact hW
  have h0_127 : g_128 h0 = some (.inr (1, [.int (a0), .int (0), .int (0), .int (0), .null, .int (0)])) := by rw [ge_129]; exact gu_s _ _ _
  have hoth : ∀ a, a ≠ h0 → g_128 a = g a := fun a ha => ((congrFun ge_129 a).trans (gu_n _ _ ha)).trans (hoth a ha)
  refine lv_aload_n hx hb dX1_init_9 rfl (lv_at hl 0 rfl) ?_
  refine lv_iload_n hx hb dX1_init_10 rfl (lv_at hl 2 rfl) ?_
  refine g_putF hx hb hts inlX1 rfl tyX1 tyX1_ok nmX1 hown hK hW h0_127 1 (by decide) fl_RX1_15 rfl hnm rfl rfl rfl (show 1 < 6 by decide) dX1_init_11 (fun H1 locs1 hW => ?_)
  obtain ⟨g_131, ge_132⟩ : ∃ z, z = gu g_128 h0 (.inr (1, [.int (a0), .int (a1), .int (0), .int (0), .null, .int (0)])) := ⟨_, rfl⟩
  have hW : PW E (fr g s.heap.size) s.heap H1 locs1 g_131 := by rw [ge_132]; exact hW
  have h0_130 : g_131 h0 = some (.inr (1, [.int (a0), .int (a1), .int (0), .int (0), .null, .int (0)])) := by rw [ge_132]; exact gu_s _ _ _
  have hoth : ∀ a, a ≠ h0 → g_131 a = g a := fun a ha => ((congrFun ge_132 a).trans (gu_n _ _ ha)).trans (hoth a ha)
  refine lv_aload_n hx hb dX1_init_14 rfl (lv_at hl 0 rfl) ?_
  refine lv_iload_n hx hb dX1_init_15 rfl (lv_at hl 3 rfl) ?_
  refine g_putF hx hb hts inlX1 rfl tyX1 tyX1_ok nmX1 hown hK hW h0_130 2 (by decide) fl_RX1_18 rfl hnm rfl rfl rfl (show 2 < 6 by decide) dX1_init_16 (fun H1 locs1 hW => ?_)
  obtain ⟨g_134, ge_135⟩ : ∃ z, z = gu g_131 h0 (.inr (1, [.int (a0), .int (a1), .int (a2), .int (0), .null, .int (0)])) := ⟨_, rfl⟩
  have hW : PW E (fr g s.heap.size) s.heap H1 locs1 g_134 := by rw [ge_135]; exact hW
  have h0_133 : g_134 h0 = some (.inr (1, [.int (a0), .int (a1), .int (a2), .int (0), .null, .int (0)])) := by rw [ge_135]; exact gu_s _ _ _
  have hoth : ∀ a, a ≠ h0 → g_134 a = g a := fun a ha => ((congrFun ge_135 a).trans (gu_n _ _ ha)).trans (hoth a ha)
  refine lv_aload_n hx hb dX1_init_19 rfl (lv_at hl 0 rfl) ?_
  refine lv_iload_n hx hb dX1_init_20 rfl (lv_at hl 2 rfl) ?_
  refine lv_iload_n hx hb dX1_init_21 rfl (lv_at hl 3 rfl) ?_
  refine c_statN (own := RX1) (As := [.int (a1), .int (a2)]) (rest := [.ref (h0)]) hx hb hml hown hts hK hW (k_X2_isOfFigures l _ _) hK.2.1 st_yX2_isOfFigures in_RX2 cd_yX2_isOfFigures 2 (by decide +kernel) ⟨Nat.le_of_ble_eq_true rfl, Nat.le_of_ble_eq_true rfl⟩ rfl hl.1 rfl (Nat.le_of_ble_eq_true rfl) dX1_init_22 ⟨Nat.le_of_ble_eq_true rfl, Nat.le_of_ble_eq_true rfl⟩ (fun v g2 H1 locs1 hp hW hKT => ?_)
  obtain ⟨rfl, hg⟩ := hp
  rw [hg] at hW
  refine W.eq (g2 := F0 m 25 ls [.int (bI (figB (a1) (a2))), .ref (h0)]) rfl ?_
  refine g_putF hx hb hts inlX1 rfl tyX1 tyX1_ok nmX1 hown hK hW h0_133 3 (by decide) fl_RX1_25 rfl hnm rfl (nb_bI _) (fb_bI _) (show 3 < 6 by decide) dX1_init_25 (fun H1 locs1 hW => ?_)
  obtain ⟨g_137, ge_138⟩ : ∃ z, z = gu g_134 h0 (.inr (1, [.int (a0), .int (a1), .int (a2), .int (bI (figB (a1) (a2))), .null, .int (0)])) := ⟨_, rfl⟩
  have hW : PW E (fr g s.heap.size) s.heap H1 locs1 g_137 := by rw [ge_138]; exact hW
  have h0_136 : g_137 h0 = some (.inr (1, [.int (a0), .int (a1), .int (a2), .int (bI (figB (a1) (a2))), .null, .int (0)])) := by rw [ge_138]; exact gu_s _ _ _
  have hoth : ∀ a, a ≠ h0 → g_137 a = g a := fun a ha => ((congrFun ge_138 a).trans (gu_n _ _ ha)).trans (hoth a ha)
  refine lv_aload_n hx hb dX1_init_28 rfl (lv_at hl 0 rfl) ?_
  refine lv_iload hx hb dX1_init_29 (lv_at hl 4 rfl) ?_
  refine g_newI (N' := ix n) hx hb (hts _ ac_int) hK hW hn rfl (by omega) (Nat.le_of_ble_eq_true rfl) (show 0 + ix n ≤ 8 by omega) dX1_init_31 (fun q H1 hqn0 hW => ?_)
  refine W.widen (k := 1) (n := 8) (Nat.le_refl _) (show 0 + ix n ≤ 8 by omega) ?_
  have hqn : q ≠ h0 := fun e1 => by rw [e1, h0_136] at hqn0; cases hqn0
  have hq0 : g q = none := by rw [← hoth q hqn]; exact hqn0
  obtain ⟨g_140, ge_141⟩ : ∃ z, z = gu g_137 q (.inl (E.2 0, ix n, .inl (fun _ => 0))) := ⟨_, rfl⟩
  have hW : PW E (fr g s.heap.size) s.heap H1 locs1 g_140 := by rw [ge_141]; exact hW
  have h0_139 : g_140 h0 = some (.inr (1, [.int (a0), .int (a1), .int (a2), .int (bI (figB (a1) (a2))), .null, .int (0)])) := by rw [ge_141, gu_n _ _ (Ne.symm hqn)]; exact h0_136
  have hqq : g_140 q = some (.inl (E.2 0, ix n, .inl (fun _ => 0))) := by rw [ge_141]; exact gu_s _ _ _
  have hoth : ∀ a, a ≠ h0 → a ≠ q → g_140 a = g a := fun a ha hb => by rw [ge_141, gu_n _ _ hb]; exact hoth a ha
  refine g_putF hx hb hts inlX1 rfl tyX1 tyX1_ok nmX1 hown hK hW h0_139 4 (by decide) fl_RX1_29 rfl hnm rfl rfl rfl (show 4 < 6 by decide) dX1_init_33 (fun H1 locs1 hW => ?_)
  obtain ⟨g_143, ge_144⟩ : ∃ z, z = gu g_140 h0 (.inr (1, [.int (a0), .int (a1), .int (a2), .int (bI (figB (a1) (a2))), .ref (q), .int (0)])) := ⟨_, rfl⟩
  have hW : PW E (fr g s.heap.size) s.heap H1 locs1 g_143 := by rw [ge_144]; exact hW
  have h0_142 : g_143 h0 = some (.inr (1, [.int (a0), .int (a1), .int (a2), .int (bI (figB (a1) (a2))), .ref (q), .int (0)])) := by rw [ge_144]; exact gu_s _ _ _
  have hqq : g_143 q = some (.inl (E.2 0, ix n, .inl (fun _ => 0))) := by rw [ge_144, gu_n _ _ hqn]; exact hqq
  have hoth : ∀ a, a ≠ h0 → a ≠ q → g_143 a = g a := fun a ha hb => ((congrFun ge_144 a).trans (gu_n _ _ ha)).trans (hoth a ha hb)
  refine lv_aload_n hx hb dX1_init_36 rfl (lv_at hl 0 rfl) ?_
  refine g_get hx hb hts inlX1 rfl hown hK hW h0_142 3 (by decide) fl_RX1_25 (v := .int (bI (figB (a1) (a2)))) rfl dX1_init_37 ?_
  refine lv_if_ne (tgt := 48) hx hb dX1_init_40 (by decide) (fun c_145 => ?_) (fun c_145 => ?_)
  · skip
    have c_145 := bI_ne0 c_145
    exact r_void hx hb hr hlk hW (by exact ⟨rfl, q, _, h0_142, hqq, hq0, fun j hj => by rw [c_145]; simp, hoth⟩) (Nat.le_of_ble_eq_true rfl) (Nat.le_of_ble_eq_true rfl) dX1_init_48
  · skip
    have c_145 := (bI_eq0 _).mp c_145
    refine lv_aload_n hx hb dX1_init_43 rfl (lv_at hl 0 rfl) ?_
    refine lv_iconst (v := -1) hx hb dX1_init_44 (by decide) ?_
    refine c_virt (own := RX1) (As := [.int (-1)]) (rest := []) hx hb hml hown hts hK hW (k_X1_fill l h0_142 hqq (by omega) (-1)) ml_RX1_33 im_yX1_fill se_yX1_fill in_RX1 cd_yX1_fill 1 (by decide +kernel) ⟨Nat.le_of_ble_eq_true rfl, Nat.le_of_ble_eq_true rfl⟩ h0_142 rfl rfl rfl hl.1 rfl (Nat.le_of_ble_eq_true rfl) dX1_init_45 ⟨Nat.le_of_ble_eq_true rfl, Nat.le_of_ble_eq_true rfl⟩ (fun v g2 H1 locs1 hp hW hKT => ?_)
    obtain ⟨rfl, hg⟩ := hp
    rw [hg] at hW
    refine W.eq (g2 := F0 m 48 ls []) rfl ?_
    exact r_void hx hb hr hlk hW (by exact ⟨rfl, q, _, by rw [gu_n _ _ (Ne.symm hqn)]; exact h0_142, gu_s _ _ _, hq0, fun j hj => by rw [c_145]; simp [filF, hj], fun a ha hb => by rw [gu_n _ _ hb]; exact hoth a ha hb⟩) (Nat.le_of_ble_eq_true rfl) (Nat.le_of_ble_eq_true rfl) dX1_init_48

set_option maxHeartbeats 4000000 in
set_option maxRecDepth 100000 in
theorem k_X0_init (l : Launch) {E : gE} {g : gm} {h0 : Nat} (hh : g h0 = some (.inr (0, [.int 0, .int 0, .int 0, .int 0, .int 0, .int 0, .int 0, .int 0, .int 0, .int 0, .int 0, .int 0]))) (a0 : Int32) : CM l yX0_init cX0_init 2 none ({ frames := 1, cells := 0, slots := 0, locals := 24 }) E [.ref (h0), .int (a0)] g (fun vv g' => vv = none ∧ g' = gu g h0 (.inr (0, [.int a0, .int 0, .int 0, .int 0, .int 0, .int 0, .int 0, .int 0, .int 0, .int 0, .int 0, .int 0]))) := by
  refine CM.of (by decide) (Nat.le_of_ble_eq_true rfl) ?_
  intro p e s m below meth c ls hM hK hW hl
  obtain ⟨hx, hb, hr, hml, hown, hts, hlk, hnm⟩ := hM
  have hown : s.vm.findClass RX0 = some m.cls := hown
  have hl : lv_has ls 2 [(0, .ref (h0)), (1, .int (a0))] := hl
  refine lv_aload_n hx hb dX0_init_0 rfl (lv_at hl 0 rfl) ?_
  refine W.objInit hx hb hown (hts _ ml_RX0_3) (hts _ im_objectInit) (hts _ cd_objectInit) rfl (by rw [hml]; exact hl.1) rfl dX0_init_1 (Nat.le_of_ble_eq_true rfl) (Nat.le_of_ble_eq_true rfl) ?_
  refine W.eq (g2 := F0 m 4 ls []) rfl ?_
  refine lv_aload_n hx hb dX0_init_4 rfl (lv_at hl 0 rfl) ?_
  refine lv_iload_n hx hb dX0_init_5 rfl (lv_at hl 1 rfl) ?_
  refine g_putF hx hb hts inlX0 rfl tyX0 tyX0_ok nmX0 hown hK hW hh 0 (by decide) fl_RX0_9 rfl hnm rfl rfl rfl (show 0 < 12 by decide) dX0_init_6 (fun H1 locs1 hW => ?_)
  exact r_void hx hb hr hlk hW (by exact ⟨rfl, rfl⟩) (Nat.le_of_ble_eq_true rfl) (Nat.le_of_ble_eq_true rfl) dX0_init_9

def setF (r : sg) (k : Nat) (a b d f : Int32) : sg := s2 (s2 (s2 (s2 (s2 (s2 (s2 (s2 (s2 (s2 (s2 r 8 k a) 9 k b) 10 k d) 11 k f) 12 k 0) 13 k 0) 14 k (-1)) 7 k 0) 6 k 0) 15 k 0) 16 k 0
set_option maxHeartbeats 4000000 in
set_option maxRecDepth 100000 in
theorem k_X0_setAnew (l : Launch) {E : gE} {x xa xk : Nat} {ma pa ka : Nat → Nat} {z : Bool} {r : sg} {g : gm} (hR : HR E x xa xk ma pa ka z r g) {k : Nat} (hk : k < 8) (hs : r 5 k ≠ 0) (a b d f : Int32) : CM l yX0_setAnew cX0_setAnew 5 none ({ frames := 0, cells := 0, slots := 0, locals := 0 }) E [.ref (ka k), .int (a), .int (b), .int (d), .int (f)] g (fun vv g' => vv = none ∧ HR E x xa xk ma pa ka z (setF r k a b d f) g') := by
  refine CM.of (by decide) (Nat.le_of_ble_eq_true rfl) ?_
  intro p e s m below meth c ls hM hK hW hl
  obtain ⟨hx, hb, hr, hml, hown, hts, hlk, hnm⟩ := hM
  have hown : s.vm.findClass RX0 = some m.cls := hown
  have hl : lv_has ls 5 [(0, .ref (ka k)), (1, .int (a)), (2, .int (b)), (3, .int (d)), (4, .int (f))] := hl
  refine lv_aload_n hx hb dX0_setAnew_0 rfl (lv_at hl 0 rfl) ?_
  refine lv_iload_n hx hb dX0_setAnew_1 rfl (lv_at hl 1 rfl) ?_
  refine hk_put 8 hx hb hts hown hK hW hR hk hs 1 (by decide) fl_RX0_15 rfl rfl rfl (by decide) (by simp [s2_a]) dX0_setAnew_2 (fun H1 locs1 g1 hW hR => ?_)
  refine lv_aload_n hx hb dX0_setAnew_5 rfl (lv_at hl 0 rfl) ?_
  refine lv_iload_n hx hb dX0_setAnew_6 rfl (lv_at hl 2 rfl) ?_
  refine hk_put 9 hx hb hts hown hK hW hR hk hs 2 (by decide) fl_RX0_18 rfl rfl rfl (by decide) (by simp [s2_a]) dX0_setAnew_7 (fun H1 locs1 g1 hW hR => ?_)
  refine lv_aload_n hx hb dX0_setAnew_10 rfl (lv_at hl 0 rfl) ?_
  refine lv_iload_n hx hb dX0_setAnew_11 rfl (lv_at hl 3 rfl) ?_
  refine hk_put 10 hx hb hts hown hK hW hR hk hs 3 (by decide) fl_RX0_21 rfl rfl rfl (by decide) (by simp [s2_a]) dX0_setAnew_12 (fun H1 locs1 g1 hW hR => ?_)
  refine lv_aload_n hx hb dX0_setAnew_15 rfl (lv_at hl 0 rfl) ?_
  refine lv_iload hx hb dX0_setAnew_16 (lv_at hl 4 rfl) ?_
  refine hk_put 11 hx hb hts hown hK hW hR hk hs 4 (by decide) fl_RX0_24 rfl rfl rfl (by decide) (by simp [s2_a]) dX0_setAnew_18 (fun H1 locs1 g1 hW hR => ?_)
  refine lv_aload_n hx hb dX0_setAnew_21 rfl (lv_at hl 0 rfl) ?_
  refine lv_iconst (v := 0) hx hb dX0_setAnew_22 (by decide) ?_
  refine hk_put 12 hx hb hts hown hK hW hR hk hs 5 (by decide) fl_RX0_27 rfl rfl rfl (by decide) (by simp [s2_a]) dX0_setAnew_23 (fun H1 locs1 g1 hW hR => ?_)
  refine lv_aload_n hx hb dX0_setAnew_26 rfl (lv_at hl 0 rfl) ?_
  refine lv_iconst (v := 0) hx hb dX0_setAnew_27 (by decide) ?_
  refine hk_put 13 hx hb hts hown hK hW hR hk hs 6 (by decide) fl_RX0_30 rfl rfl rfl (by decide) (by simp [s2_a]) dX0_setAnew_28 (fun H1 locs1 g1 hW hR => ?_)
  refine lv_aload_n hx hb dX0_setAnew_31 rfl (lv_at hl 0 rfl) ?_
  refine lv_iconst (v := -1) hx hb dX0_setAnew_32 (by decide) ?_
  refine hk_put 14 hx hb hts hown hK hW hR hk hs 7 (by decide) fl_RX0_33 rfl rfl rfl (by decide) (by simp [s2_a]) dX0_setAnew_33 (fun H1 locs1 g1 hW hR => ?_)
  refine lv_aload_n hx hb dX0_setAnew_36 rfl (lv_at hl 0 rfl) ?_
  refine lv_iconst (v := 0) hx hb dX0_setAnew_37 (by decide) ?_
  refine hk_put 7 hx hb hts hown hK hW hR hk hs 8 (by decide) fl_RX0_36 rfl rfl rfl (by decide) (by simp [s2_a]) dX0_setAnew_38 (fun H1 locs1 g1 hW hR => ?_)
  refine lv_aload_n hx hb dX0_setAnew_41 rfl (lv_at hl 0 rfl) ?_
  refine lv_iconst (v := 0) hx hb dX0_setAnew_42 (by decide) ?_
  refine hk_put 6 hx hb hts hown hK hW hR hk hs 9 (by decide) fl_RX0_40 rfl rfl rfl (by decide) (by simp [s2_a]) dX0_setAnew_43 (fun H1 locs1 g1 hW hR => ?_)
  refine lv_aload_n hx hb dX0_setAnew_46 rfl (lv_at hl 0 rfl) ?_
  refine lv_iconst (v := 0) hx hb dX0_setAnew_47 (by decide) ?_
  refine hk_put 15 hx hb hts hown hK hW hR hk hs 10 (by decide) fl_RX0_43 rfl rfl rfl (by decide) (by simp [s2_a]) dX0_setAnew_48 (fun H1 locs1 g1 hW hR => ?_)
  refine lv_aload_n hx hb dX0_setAnew_51 rfl (lv_at hl 0 rfl) ?_
  refine lv_iconst (v := 0) hx hb dX0_setAnew_52 (by decide) ?_
  refine hk_put 16 hx hb hts hown hK hW hR hk hs 11 (by decide) fl_RX0_46 rfl rfl rfl (by decide) (by simp [s2_a]) dX0_setAnew_53 (fun H1 locs1 g1 hW hR => ?_)
  exact r_void hx hb hr hlk hW (by exact ⟨rfl, hR⟩) (Nat.le_of_ble_eq_true rfl) (Nat.le_of_ble_eq_true rfl) dX0_setAnew_56
end
section
def fillN (r : sg) (i : Nat) (v : Int32) : Nat → sg
  | 0 => r
  | n + 1 => s2 (fillN r i v n) 4 (8 * i + n) v
theorem fillN_a (r : sg) (i : Nat) (v : Int32) (n f j : Nat) : fillN r i v n f j = if f = 4 ∧ 8 * i ≤ j ∧ j < 8 * i + n then v else r f j := by
  induction n with
  | zero => rw [if_neg (by omega)]; rfl
  | succ n ih =>
    simp only [fillN, s2_a, ih]
    by_cases h : f = 4
    · subst h
      by_cases h1 : j = 8 * i + n
      · rw [if_pos ⟨rfl, h1⟩, if_pos (by omega)]
      · rw [if_neg (by omega)]
        by_cases h2 : 8 * i ≤ j ∧ j < 8 * i + n
        · rw [if_pos ⟨rfl, h2⟩, if_pos (by omega)]
        · rw [if_neg (fun q => h2 q.2), if_neg (by omega)]
    · rw [if_neg (fun q => h q.1), if_neg (fun q => h q.1), if_neg (fun q => h q.1)]
def keptF (r : sg) (b d n fl : Int32) : sg := s2 (fillN (s2 (s2 (s2 (s2 r 0 (nm r) b) 1 (nm r) d) 2 (nm r) 0) 3 (nm r) n) (nm r) fl 8) 17 0 (r 17 0 + 1)
def entF (r : sg) (b d n st : Int32) : sg := s2 (keptF r b d n (if figB b d then 0 else -1)) 2 (nm r) st
theorem ne_none {g : gm} {a b : Nat} {e : va_E} (ha : g a = none) (hb : g b = some e) : b ≠ a := fun q => by rw [q, ha] at hb; cases hb
theorem nm_ent {r : sg} {b d n st : Int32} (h0 : ¬ r 17 0 < 0) (h60 : nm r < 60) : nm (entF r b d n st) = nm r + 1 := by
  have e1 : r 17 0 = nI (nm r) := (nI_ix h0).symm
  have e2 : entF r b d n st 17 0 = r 17 0 + 1 := by simp [entF, keptF, s2_a]
  rw [nm, e2, e1, nI_1, ix, nI_clamp (by omega)]
set_option maxHeartbeats 4000000 in
theorem HR.new {E : gE} {x xa xk : Nat} {ma pa ka : Nat → Nat} {z : Bool} {r : sg} {g g' : gm} (h : HR E x xa xk ma pa ka z r g) (hn0 : ¬ r 17 0 < 0) (h60 : nm r < 60) {b d n st : Int32} (hn : ¬ n < 0) (hn8 : ix n ≤ 8) {q0 q : Nat} {f : Nat → Int32}
    (e0 : g' q0 = some (.inr (1, [.int (r 17 0), .int b, .int d, .int (bI (figB b d)), .ref q, .int st]))) (e1 : g' q = some (.inl (E.2 0, ix n, .inl f))) (e2 : ∀ j, j < ix n → f j = if figB b d then 0 else -1) (e3 : g' xa = some (.inl (E.2 2, 60, .inr (.inr (.inr (.inr (va_up (mrw r ma) (ix (r 17 0)) (some q0)))))))) (e4 : g' x = some (.inr (2, [.ref xa, .ref xk, .int (r 17 0 + 1), .int (nsetN r 8), .int (r 17 1), .int (tal z r 2), .int (tal z r 3), .int (tal z r 4), .int (tal z r 5), .int (tal z r 6)])))
    (e5 : ∀ a, a ≠ x → a ≠ xa → a ≠ q0 → a ≠ q → g' a = g a) (f1 : g q0 = none) (f2 : g q = none) : HR E x xa xk (va_up ma (nm r) q0) (va_up pa (nm r) q) ka z (entF r b d n st) g' := by
  have en := nm_ent (b := b) (d := d) (n := n) (st := st) hn0 h60
  obtain ⟨a1, a2, a3, a4, a5, a6, a7⟩ := h
  have eN : r 17 0 = nI (nm r) := (nI_ix hn0).symm
  have r5 : ∀ f, 5 ≤ f → f ≤ 16 → entF r b d n st f = r f := fun f h1 h2 => by
    funext j
    simp [entF, keptF, s2_a, fillN_a, show f ≠ 2 by omega, show f ≠ 17 by omega, show f ≠ 4 by omega, show f ≠ 3 by omega, show f ≠ 1 by omega, show f ≠ 0 by omega]
  have rt : ∀ j, 0 < j → entF r b d n st 17 j = r 17 j := fun j hj => by simp [entF, keptF, s2_a, fillN_a, show j ≠ 0 by omega]
  have r0 : ∀ i, entF r b d n st 0 i = if i = nm r then b else r 0 i := fun i => by simp [entF, keptF, s2_a, fillN_a]
  have r1 : ∀ i, entF r b d n st 1 i = if i = nm r then d else r 1 i := fun i => by simp [entF, keptF, s2_a, fillN_a]
  have r2 : ∀ i, entF r b d n st 2 i = if i = nm r then st else r 2 i := fun i => by
    by_cases hi : i = nm r <;> simp [entF, keptF, s2_a, fillN_a, hi]
  have r3 : ∀ i, entF r b d n st 3 i = if i = nm r then n else r 3 i := fun i => by simp [entF, keptF, s2_a, fillN_a]
  have r4 : ∀ j, entF r b d n st 4 j = if 8 * nm r ≤ j ∧ j < 8 * nm r + 8 then (if figB b d then 0 else -1) else r 4 j := fun j => by simp [entF, keptF, s2_a, fillN_a]
  have r17 : entF r b d n st 17 0 = r 17 0 + 1 := by simp [entF, keptF, s2_a]
  refine ⟨?_, ?_, ?_, fun i hi => ?_, fun k hk hs => ?_, fun i j hi hj hij => ?_, by rw [en]; omega⟩
  · rw [e4]
    have t : ∀ j, 0 < j → tal z (entF r b d n st) j = tal z r j := fun j hj => by simp [tal, rt j hj]
    simp [hfs, r17, t, rt, nset_congr (r5 5 (by decide) (by decide))]
  · rw [e3]
    have : va_up (mrw r ma) (ix (r 17 0)) (some q0) = mrw (entF r b d n st) (va_up ma (nm r) q0) := by
      funext j
      show va_up (mrw r ma) (nm r) (some q0) j = _
      by_cases hj : j = nm r
      · subst hj
        simp [mrw, en, va_up]
      · by_cases h2 : j < nm r
        · simp [mrw, en, va_up, hj, h2, show j < nm r + 1 by omega]
        · simp [mrw, en, va_up, hj, h2, show ¬ j < nm r + 1 by omega]
    rw [this]
  · rw [e5 xk (ne_kd a3 a1 (by simp [kd])) (ne_kd a3 a2 (by simp [kd])) (ne_none f1 a3) (ne_none f2 a3), a3, krw_c (r5 5 (by decide) (by decide))]
  · rw [en] at hi
    by_cases hin : i = nm r
    · subst hin
      rw [r3, if_pos rfl]
      refine ⟨?_, ⟨f, ?_, fun j hj => ?_⟩, hn, hn8⟩
      · simp only [va_up_self, mfl, r0, r1, r2, if_true]
        rw [e0, eN]
      · rw [va_up_self, e1]
      · rw [e2 j hj, r4, if_pos (c := 8 * nm r ≤ 8 * nm r + j ∧ 8 * nm r + j < 8 * nm r + 8) (by omega)]
    · obtain ⟨b1, ⟨f', b2, b3⟩, b4, b5⟩ := a4 i (by omega)
      rw [r3, if_neg hin, va_up_ne _ _ hin, va_up_ne _ _ hin]
      refine ⟨?_, ⟨f', ?_, fun j hj => ?_⟩, b4, b5⟩
      · rw [e5 _ (ne_kd b1 a1 (by simp [kd])) (ne_kd b1 a2 (by simp [kd])) (ne_none f1 b1) (ne_none f2 b1), b1]
        simp [mfl, r0, r1, r2, hin, va_up]
      · rw [e5 _ (ne_kd b2 a1 (by simp [kd])) (ne_kd b2 a2 (by simp [kd])) (ne_none f1 b2) (ne_none f2 b2), b2]
      · rw [b3 j hj, r4, if_neg (by omega)]
  · rw [r5 5 (by decide) (by decide)] at hs
    have b1 := a5 k hk hs
    rw [e5 _ (ne_kd b1 a1 (by simp [kd])) (ne_kd b1 a2 (by simp [kd])) (ne_none f1 b1) (ne_none f2 b1), b1]
    simp [kfl, r5 6 (by decide) (by decide), r5 7 (by decide) (by decide), r5 8 (by decide) (by decide), r5 9 (by decide) (by decide), r5 10 (by decide) (by decide), r5 11 (by decide) (by decide), r5 12 (by decide) (by decide), r5 13 (by decide) (by decide), r5 14 (by decide) (by decide), r5 15 (by decide) (by decide), r5 16 (by decide) (by decide)]
  · rw [en] at hi hj
    have ne : ∀ i, i < nm r → pa i ≠ q := fun i hi e9 => by
      obtain ⟨-, ⟨f', b2, -⟩, -, -⟩ := a4 i hi
      rw [e9, f2] at b2
      cases b2
    by_cases h1 : i = nm r
    · by_cases h2 : j = nm r
      · rw [h1, h2]
      · rw [h1, va_up_self, va_up_ne _ _ h2] at hij
        exact absurd hij.symm (ne j (by omega))
    · by_cases h2 : j = nm r
      · rw [h2, va_up_self, va_up_ne _ _ h1] at hij
        exact absurd hij (ne i (by omega))
      · rw [va_up_ne _ _ h1, va_up_ne _ _ h2] at hij
        exact a6 i j (by omega) (by omega) hij

def enterI (r : sg) (n : Int32) : Int32 := if r 17 0 < 60 then (if n < 0 then -6 else r 17 0) else -3

set_option maxHeartbeats 4000000 in
set_option maxRecDepth 100000 in
theorem k_X2_enter (l : Launch) {E : gE} {x xa xk : Nat} {ma pa ka : Nat → Nat} {z : Bool} {r : sg} {g : gm} (hR : HR E x xa xk ma pa ka z r g) (hn0 : ¬ r 17 0 < 0) (b d : Int32) {n : Int32} (hn8 : ix n ≤ 8) (st : Int32) : CM l yX2_enter cX2_enter 6 (some .int) ({ frames := 3, cells := 2, slots := 14, locals := 100 }) E [.ref (x), .int (b), .int (d), .int (n), .int (st)] g (fun vv g' => vv = some (.int (enterI r n)) ∧ if r 17 0 < 60 ∧ ¬ n < 0 then ∃ ma' pa', HR E x xa xk ma' pa' ka z (entF r b d n st) g' else ∃ ma' pa', HR E x xa xk ma' pa' ka z r g') := by
  refine CM.of (by decide) (Nat.le_of_ble_eq_true rfl) ?_
  intro p e s m below meth c ls hM hK hW hl
  obtain ⟨hx, hb, hr, hml, hown, hts, hlk, hnm⟩ := hM
  have hown : s.vm.findClass RX2 = some m.cls := hown
  have hl : lv_has ls 6 [(0, .ref (x)), (1, .int (b)), (2, .int (d)), (3, .int (n)), (4, .int (st))] := hl
  refine lv_aload_n hx hb dX2_enter_0 rfl (lv_at hl 0 rfl) ?_
  refine g_get hx hb hts inlX2 rfl hown hK hW hR.1 2 (by decide) fl_RX2_130 (v := .int (r 17 0)) rfl dX2_enter_1 ?_
  refine lv_bipush (v := 60) hx hb dX2_enter_4 (by decide) ?_
  refine lv_icmp_lt (tgt := 12) hx hb dX2_enter_6 (by decide) (fun c_146 => ?_) (fun c_146 => ?_)
  · skip
    refine lv_iload_n hx hb dX2_enter_12 rfl (lv_at hl 3 rfl) ?_
    refine lv_if_ge (tgt := 19) hx hb dX2_enter_13 (by decide) (fun c_147 => ?_) (fun c_147 => ?_)
    · skip
      have c_147 := Int32.not_lt.mpr c_147
      refine g_new (ci := 1) (fs := [.int 0, .int 0, .int 0, .int 0, .null, .int 0]) hx hb hts inlX1 rfl tyX1 tyX1_ok hown cl_RX2_9 ia_RX1 in_RX1 hK hW (fun j hj => by rcases (show j = 0 ∨ j = 1 ∨ j = 2 ∨ j = 3 ∨ j = 4 ∨ j = 5 by omega) with rfl | rfl | rfl | rfl | rfl | rfl <;> rfl) (Nat.le_of_ble_eq_true rfl) (Nat.le_of_ble_eq_true rfl) dX2_enter_19 (fun q0 H1 f1 hW => ?_)
      obtain ⟨g_148, ge_149⟩ : ∃ zz, zz = gu g q0 (.inr (1, [.int (0), .int (0), .int (0), .int (0), .null, .int (0)])) := ⟨_, rfl⟩
      have hW : PW E (fr g s.heap.size) s.heap H1 [] g_148 := by rw [ge_149]; exact hW
      have h_151 : g_148 x = some (.inr (2, [.ref (xa), .ref (xk), .int (r 17 0), .int (nsetN r 8), .int (r 17 1), .int (tal z r 2), .int (tal z r 3), .int (tal z r 4), .int (tal z r 5), .int (tal z r 6)])) := ((congrFun ge_149 _).trans (gu_n _ _ (ne_none f1 hR.1))).trans hR.1
      have h_152 : g_148 xa = some (.inl (E.2 2, 60, .inr (.inr (.inr (.inr (mrw r ma)))))) := ((congrFun ge_149 _).trans (gu_n _ _ (ne_none f1 hR.2.1))).trans hR.2.1
      have h_153 : g_148 xk = some (.inl (E.2 3, 8, .inr (.inr (.inr (.inr (krw r ka)))))) := ((congrFun ge_149 _).trans (gu_n _ _ (ne_none f1 hR.2.2.1))).trans hR.2.2.1
      have h_150 : g_148 q0 = some (.inr (1, [.int (0), .int (0), .int (0), .int (0), .null, .int (0)])) := (congrFun ge_149 _).trans (gu_s _ _ _)
      refine lv_dup hx hb dX2_enter_22 rfl ?_
      refine lv_aload_n hx hb dX2_enter_23 rfl (lv_at hl 0 rfl) ?_
      refine g_get hx hb hts inlX2 rfl hown hK hW h_151 2 (by decide) fl_RX2_130 (v := .int (r 17 0)) rfl dX2_enter_24 ?_
      refine lv_iload_n hx hb dX2_enter_27 rfl (lv_at hl 1 rfl) ?_
      refine lv_iload_n hx hb dX2_enter_28 rfl (lv_at hl 2 rfl) ?_
      refine lv_iload_n hx hb dX2_enter_29 rfl (lv_at hl 3 rfl) ?_
      refine c_init (own := RX2) (As := [.int (r 17 0), .int (b), .int (d), .int (n)]) (rest := [.ref (q0)]) hx hb hml hown hts hK hW (k_X1_init l h_150 _ _ _ c_147 hn8) ml_RX2_133 im_yX1_init in_RX1 cd_yX1_init rfl 4 (by decide +kernel) ⟨Nat.le_of_ble_eq_true rfl, Nat.le_of_ble_eq_true rfl⟩ rfl hl.1 rfl (Nat.le_of_ble_eq_true rfl) dX2_enter_30 ⟨Nat.le_of_ble_eq_true rfl, Nat.le_of_ble_eq_true rfl⟩ (fun v g2 H1 locs1 hp hW hKT => ?_)
      obtain ⟨rfl, q, f, i0, i1, i2, i3, i4⟩ := hp
      refine W.eq (g2 := F0 m 33 ls [.ref (q0)]) rfl ?_
      have h_154 : g2 x = some (.inr (2, [.ref (xa), .ref (xk), .int (r 17 0), .int (nsetN r 8), .int (r 17 1), .int (tal z r 2), .int (tal z r 3), .int (tal z r 4), .int (tal z r 5), .int (tal z r 6)])) := (i4 _ (ne_none f1 hR.1) (ne_none i2 h_151)).trans h_151
      have h_155 : g2 xa = some (.inl (E.2 2, 60, .inr (.inr (.inr (.inr (mrw r ma)))))) := (i4 _ (ne_none f1 hR.2.1) (ne_none i2 h_152)).trans h_152
      have h_156 : g2 xk = some (.inl (E.2 3, 8, .inr (.inr (.inr (.inr (krw r ka)))))) := (i4 _ (ne_none f1 hR.2.2.1) (ne_none i2 h_153)).trans h_153
      refine lv_astore (lv' := [(5, .ref (q0)), (0, .ref (x)), (1, .int (b)), (2, .int (d)), (3, .int (n)), (4, .int (st))]) hx hb dX2_enter_33 hl (by decide) rfl (fun ls hl => ?_)
      refine lv_aload hx hb dX2_enter_35 (lv_at hl 0 rfl) ?_
      refine lv_iload hx hb dX2_enter_37 (lv_at hl 5 rfl) ?_
      refine g_put hx hb hts inlX1 rfl tyX1 tyX1_ok nmX1 hown hK hW i0 5 (by decide) fl_RX2_59 rfl rfl rfl (show 5 < 6 by decide) dX2_enter_39 (fun H1 locs1 hW => ?_)
      obtain ⟨g_157, ge_158⟩ : ∃ zz, zz = gu g2 q0 (.inr (1, [.int (r 17 0), .int (b), .int (d), .int (bI (figB b d)), .ref (q), .int (st)])) := ⟨_, rfl⟩
      have hW : PW E (fr g s.heap.size) s.heap H1 locs1 g_157 := by rw [ge_158]; exact hW
      have h_160 : g_157 x = some (.inr (2, [.ref (xa), .ref (xk), .int (r 17 0), .int (nsetN r 8), .int (r 17 1), .int (tal z r 2), .int (tal z r 3), .int (tal z r 4), .int (tal z r 5), .int (tal z r 6)])) := ((congrFun ge_158 _).trans (gu_n _ _ (ne_kd h_154 i0 (by simp [kd])))).trans h_154
      have h_161 : g_157 xa = some (.inl (E.2 2, 60, .inr (.inr (.inr (.inr (mrw r ma)))))) := ((congrFun ge_158 _).trans (gu_n _ _ (ne_kd h_155 i0 (by simp [kd])))).trans h_155
      have h_162 : g_157 xk = some (.inl (E.2 3, 8, .inr (.inr (.inr (.inr (krw r ka)))))) := ((congrFun ge_158 _).trans (gu_n _ _ (ne_kd h_156 i0 (by simp [kd])))).trans h_156
      have h_163 : g_157 q = some (.inl (E.2 0, ix n, .inl f)) := ((congrFun ge_158 _).trans (gu_n _ _ (ne_kd i1 i0 (by simp [kd])))).trans i1
      have h_159 : g_157 q0 = some (.inr (1, [.int (r 17 0), .int (b), .int (d), .int (bI (figB b d)), .ref (q), .int (st)])) := (congrFun ge_158 _).trans (gu_s _ _ _)
      refine lv_aload_n hx hb dX2_enter_42 rfl (lv_at hl 1 rfl) ?_
      refine g_get hx hb hts inlX2 rfl hown hK hW h_160 0 (by decide) fl_RX2_11 (v := .ref (xa)) rfl dX2_enter_43 ?_
      refine lv_aload_n hx hb dX2_enter_46 rfl (lv_at hl 1 rfl) ?_
      refine g_get hx hb hts inlX2 rfl hown hK hW h_160 2 (by decide) fl_RX2_130 (v := .int (r 17 0)) rfl dX2_enter_47 ?_
      refine lv_aload hx hb dX2_enter_50 (lv_at hl 0 rfl) ?_
      refine g_astM hx hb hK hW h_161 h_159 (vin (n := 60) (by decide) hn0 c_146) dX2_enter_52 (fun H1 locs1 hW => ?_)
      obtain ⟨g_164, ge_165⟩ : ∃ zz, zz = gu g_157 xa (.inl (E.2 2, 60, .inr (.inr (.inr (.inr (va_up (mrw r ma) (ix (r 17 0)) (some q0))))))) := ⟨_, rfl⟩
      have hW : PW E (fr g s.heap.size) s.heap H1 locs1 g_164 := by rw [ge_165]; exact hW
      have h_167 : g_164 x = some (.inr (2, [.ref (xa), .ref (xk), .int (r 17 0), .int (nsetN r 8), .int (r 17 1), .int (tal z r 2), .int (tal z r 3), .int (tal z r 4), .int (tal z r 5), .int (tal z r 6)])) := ((congrFun ge_165 _).trans (gu_n _ _ (ne_kd h_160 h_161 (by simp [kd])))).trans h_160
      have h_168 : g_164 xk = some (.inl (E.2 3, 8, .inr (.inr (.inr (.inr (krw r ka)))))) := ((congrFun ge_165 _).trans (gu_n _ _ (ne_kd h_162 h_161 (by simp [kd])))).trans h_162
      have h_169 : g_164 q0 = some (.inr (1, [.int (r 17 0), .int (b), .int (d), .int (bI (figB b d)), .ref (q), .int (st)])) := ((congrFun ge_165 _).trans (gu_n _ _ (ne_kd h_159 h_161 (by simp [kd])))).trans h_159
      have h_170 : g_164 q = some (.inl (E.2 0, ix n, .inl f)) := ((congrFun ge_165 _).trans (gu_n _ _ (ne_kd h_163 h_161 (by simp [kd])))).trans h_163
      have h_166 : g_164 xa = some (.inl (E.2 2, 60, .inr (.inr (.inr (.inr (va_up (mrw r ma) (ix (r 17 0)) (some q0))))))) := (congrFun ge_165 _).trans (gu_s _ _ _)
      refine lv_aload_n hx hb dX2_enter_53 rfl (lv_at hl 1 rfl) ?_
      refine lv_dup hx hb dX2_enter_54 rfl ?_
      refine g_get hx hb hts inlX2 rfl hown hK hW h_167 2 (by decide) fl_RX2_130 (v := .int (r 17 0)) rfl dX2_enter_55 ?_
      refine lv_iconst (v := 1) hx hb dX2_enter_58 (by decide) ?_
      refine lv_iadd hx hb dX2_enter_59 ?_
      refine g_put hx hb hts inlX2 rfl tyX2 tyX2_ok nmX2 hown hK hW h_167 2 (by decide) fl_RX2_130 rfl rfl rfl (show 2 < 10 by decide) dX2_enter_60 (fun H1 locs1 hW => ?_)
      obtain ⟨g_171, ge_172⟩ : ∃ zz, zz = gu g_164 x (.inr (2, [.ref (xa), .ref (xk), .int ((r 17 0) + (1)), .int (nsetN r 8), .int (r 17 1), .int (tal z r 2), .int (tal z r 3), .int (tal z r 4), .int (tal z r 5), .int (tal z r 6)])) := ⟨_, rfl⟩
      have hW : PW E (fr g s.heap.size) s.heap H1 locs1 g_171 := by rw [ge_172]; exact hW
      have h_174 : g_171 xa = some (.inl (E.2 2, 60, .inr (.inr (.inr (.inr (va_up (mrw r ma) (ix (r 17 0)) (some q0))))))) := ((congrFun ge_172 _).trans (gu_n _ _ (ne_kd h_166 h_167 (by simp [kd])))).trans h_166
      have h_175 : g_171 xk = some (.inl (E.2 3, 8, .inr (.inr (.inr (.inr (krw r ka)))))) := ((congrFun ge_172 _).trans (gu_n _ _ (ne_kd h_168 h_167 (by simp [kd])))).trans h_168
      have h_176 : g_171 q0 = some (.inr (1, [.int (r 17 0), .int (b), .int (d), .int (bI (figB b d)), .ref (q), .int (st)])) := ((congrFun ge_172 _).trans (gu_n _ _ (ne_kd h_169 h_167 (by simp [kd])))).trans h_169
      have h_177 : g_171 q = some (.inl (E.2 0, ix n, .inl f)) := ((congrFun ge_172 _).trans (gu_n _ _ (ne_kd h_170 h_167 (by simp [kd])))).trans h_170
      have h_173 : g_171 x = some (.inr (2, [.ref (xa), .ref (xk), .int ((r 17 0) + (1)), .int (nsetN r 8), .int (r 17 1), .int (tal z r 2), .int (tal z r 3), .int (tal z r 4), .int (tal z r 5), .int (tal z r 6)])) := (congrFun ge_172 _).trans (gu_s _ _ _)
      refine lv_aload hx hb dX2_enter_63 (lv_at hl 0 rfl) ?_
      refine g_get hx hb hts inlX1 rfl hown hK hW h_176 0 (by decide) fl_RX2_135 (v := .int (r 17 0)) rfl dX2_enter_65 ?_
      exact r_int hx hb hr hlk hW (by have hqn0 : q ≠ q0 := ne_kd h_177 h_176 (by simp [kd]); exact ⟨by simp [enterI, c_146, c_147], by rw [if_pos (by simp [c_146, c_147])]; exact ⟨_, _, HR.new hR hn0 ((ix_lt (n := 60) (by decide) hn0).mpr c_146) c_147 hn8 h_176 h_177 i3 h_174 h_173 (fun a ha hb hc hd => ((congrFun ge_172 a).trans (gu_n _ _ ha)).trans (((congrFun ge_165 a).trans (gu_n _ _ hb)).trans (((congrFun ge_158 a).trans (gu_n _ _ hc)).trans ((i4 a hc hd).trans ((congrFun ge_149 a).trans (gu_n _ _ hc)))))) f1 (((congrFun ge_149 q).trans (gu_n _ _ hqn0)).symm.trans i2)⟩⟩) (Nat.le_of_ble_eq_true rfl) (Nat.le_of_ble_eq_true rfl) dX2_enter_68
    · skip
      have c_147 := Int32.not_le.mp c_147
      refine lv_bipush (v := -6) hx hb dX2_enter_16 (by decide) ?_
      exact r_int hx hb hr hlk hW (by exact ⟨by simp [enterI, c_146, c_147], by simp [enterI, c_146, c_147]; exact ⟨_, _, hR⟩⟩) (Nat.le_of_ble_eq_true rfl) (Nat.le_of_ble_eq_true rfl) dX2_enter_18
  · skip
    refine lv_bipush (v := -3) hx hb dX2_enter_9 (by decide) ?_
    exact r_int hx hb hr hlk hW (by exact ⟨by simp [enterI, c_146], by simp [enterI, c_146]; exact ⟨_, _, hR⟩⟩) (Nat.le_of_ble_eq_true rfl) (Nat.le_of_ble_eq_true rfl) dX2_enter_11
end
section
def Fslip (r : sg) (b st : Int32) : Int32 × sg := if b < 0 ∨ 2 < b then (-2, r) else if r 17 0 < 60 then (r 17 0, entF r b 0 0 st) else (-3, r)
def Fbundle (r : sg) (b d n : Int32) : Int32 × sg := if d < 1 ∨ kindB b d = false ∨ 8 < n then (-2, r) else if r 17 0 < 60 then (if n < 0 then (-6, r) else (r 17 0, entF r b d n 0)) else (-3, r)
theorem slip_fin {P : sg → Prop} {r : sg} {b st : Int32} (hb : ¬ b < 0) (hb2 : ¬ 2 < b) (hp : if r 17 0 < 60 ∧ ¬ (0 : Int32) < 0 then P (entF r b 0 0 st) else P r) : some (Value.int (enterI r 0)) = some (Value.int (Fslip r b st).1) ∧ P (Fslip r b st).2 := by
  have h0 : ¬ (0 : Int32) < 0 := by decide
  by_cases hz : r 17 0 < 60
  · rw [if_pos ⟨hz, h0⟩] at hp
    have e1 : Fslip r b st = (r 17 0, entF r b 0 0 st) := by simp only [Fslip, hb, hb2, or_self, if_false, if_pos hz]
    have e2 : enterI r 0 = r 17 0 := by simp only [enterI, if_pos hz, if_neg h0]
    rw [e1, e2]
    exact ⟨rfl, hp⟩
  · rw [if_neg (fun q => hz q.1)] at hp
    have e1 : Fslip r b st = (-3, r) := by simp only [Fslip, hb, hb2, or_self, if_false, if_neg hz]
    have e2 : enterI r 0 = -3 := by simp only [enterI, if_neg hz]
    rw [e1, e2]
    exact ⟨rfl, hp⟩
theorem bundle_fin {P : sg → Prop} {r : sg} {b d n : Int32} (hb : ¬ d < 1) (hb2 : kindB b d = true) (hb3 : ¬ 8 < n) (hp : if r 17 0 < 60 ∧ ¬ n < 0 then P (entF r b d n 0) else P r) : some (Value.int (enterI r n)) = some (Value.int (Fbundle r b d n).1) ∧ P (Fbundle r b d n).2 := by
  have e0 : ¬ (d < 1 ∨ kindB b d = false ∨ 8 < n) := by simp [hb, hb2, hb3]
  by_cases hz : r 17 0 < 60
  · by_cases hn : n < 0
    · rw [if_neg (fun q => q.2 hn)] at hp
      have e1 : Fbundle r b d n = (-6, r) := by simp only [Fbundle, if_neg e0, if_pos hz, if_pos hn]
      have e2 : enterI r n = -6 := by simp only [enterI, if_pos hz, if_pos hn]
      rw [e1, e2]
      exact ⟨rfl, hp⟩
    · rw [if_pos ⟨hz, hn⟩] at hp
      have e1 : Fbundle r b d n = (r 17 0, entF r b d n 0) := by simp only [Fbundle, if_neg e0, if_pos hz, if_neg hn]
      have e2 : enterI r n = r 17 0 := by simp only [enterI, if_pos hz, if_neg hn]
      rw [e1, e2]
      exact ⟨rfl, hp⟩
  · rw [if_neg (fun q => hz q.1)] at hp
    have e1 : Fbundle r b d n = (-3, r) := by simp only [Fbundle, if_neg e0, if_neg hz]
    have e2 : enterI r n = -3 := by simp only [enterI, if_neg hz]
    rw [e1, e2]
    exact ⟨rfl, hp⟩
theorem ix_le8 {n : Int32} (h : ¬ 8 < n) : ix n ≤ 8 := by
  by_cases h0 : n < 0
  · have h1 : n.toInt < 0 := Int32.lt_iff_toInt_lt.mp h0
    have h2 : ix n = n.toInt.toNat := rfl
    omega
  · rw [Int32.lt_iff_toInt_lt, ix_i h0] at h
    simp at h
    omega
def zrF (r : sg) (k : Nat) : sg := fun f i => if i = k ∧ 5 ≤ f ∧ f ≤ 16 then (if f = 5 then 1 else 0) else r f i
def ctrF (r : sg) (k : Nat) (a b d f : Int32) : sg := s2 (s2 (s2 (s2 (s2 (s2 (s2 (s2 (s2 (s2 (s2 (s2 r 5 k 1) 6 k 0) 7 k 0) 8 k a) 9 k b) 10 k d) 11 k f) 12 k 0) 13 k 0) 14 k (-1)) 15 k 0) 16 k 0
def Fcounter (r : sg) (k a b d f : Int32) : Int32 × sg := if !decide (k < 0) && (decide (k < 8) && (kindB a b && kindB d f)) then (1, ctrF r (ix k) a b d f) else (-2, r)
theorem set_ctr {r : sg} {k : Nat} {a b d f : Int32} (h : r 5 k = 1) : setF r k a b d f = ctrF r k a b d f := by
  funext q i
  by_cases hi : i = k
  · subst hi
    rcases (show q = 5 ∨ q = 6 ∨ q = 7 ∨ q = 8 ∨ q = 9 ∨ q = 10 ∨ q = 11 ∨ q = 12 ∨ q = 13 ∨ q = 14 ∨ q = 15 ∨ q = 16 ∨ (q < 5 ∨ 16 < q) by omega) with rfl | rfl | rfl | rfl | rfl | rfl | rfl | rfl | rfl | rfl | rfl | rfl | hq
    all_goals first | (simp [setF, ctrF, s2_a, h]; done) | skip
    have n5 : q ≠ 5 := by omega
    have n6 : q ≠ 6 := by omega
    have n7 : q ≠ 7 := by omega
    have n8 : q ≠ 8 := by omega
    have n9 : q ≠ 9 := by omega
    have n10 : q ≠ 10 := by omega
    have n11 : q ≠ 11 := by omega
    have n12 : q ≠ 12 := by omega
    have n13 : q ≠ 13 := by omega
    have n14 : q ≠ 14 := by omega
    have n15 : q ≠ 15 := by omega
    have n16 : q ≠ 16 := by omega
    simp [setF, ctrF, s2_a, n5, n6, n7, n8, n9, n10, n11, n12, n13, n14, n15, n16]
  · simp [setF, ctrF, s2_a, hi]
theorem set_zr {r : sg} {k : Nat} {a b d f : Int32} : setF (zrF r k) k a b d f = ctrF r k a b d f := by
  funext q i
  by_cases hi : i = k
  · subst hi
    rcases (show q = 5 ∨ q = 6 ∨ q = 7 ∨ q = 8 ∨ q = 9 ∨ q = 10 ∨ q = 11 ∨ q = 12 ∨ q = 13 ∨ q = 14 ∨ q = 15 ∨ q = 16 ∨ (q < 5 ∨ 16 < q) by omega) with rfl | rfl | rfl | rfl | rfl | rfl | rfl | rfl | rfl | rfl | rfl | rfl | hq
    all_goals first | (simp [setF, ctrF, s2_a, zrF]; done) | skip
    have n5 : q ≠ 5 := by omega
    have n6 : q ≠ 6 := by omega
    have n7 : q ≠ 7 := by omega
    have n8 : q ≠ 8 := by omega
    have n9 : q ≠ 9 := by omega
    have n10 : q ≠ 10 := by omega
    have n11 : q ≠ 11 := by omega
    have n12 : q ≠ 12 := by omega
    have n13 : q ≠ 13 := by omega
    have n14 : q ≠ 14 := by omega
    have n15 : q ≠ 15 := by omega
    have n16 : q ≠ 16 := by omega
    simp [setF, ctrF, s2_a, n5, n6, n7, n8, n9, n10, n11, n12, n13, n14, n15, n16]
    show zrF r i q i = r q i
    simp only [zrF]
    rw [if_neg (by omega)]
  · simp [setF, ctrF, s2_a, hi, zrF]
theorem nset_zr {r : sg} {k : Nat} (h : r 5 k = 0) (n : Nat) : nsetN (zrF r k) n = if k < n then nsetN r n + 1 else nsetN r n := by
  induction n with
  | zero => rfl
  | succ n ih =>
    simp only [nsetN, ih]
    by_cases hk : n = k
    · subst hk
      rw [if_neg (Nat.lt_irrefl _), if_pos (Nat.lt_succ_self _)]
      simp [zrF, h, bI]
    · have e1 : zrF r k 5 n = r 5 n := by simp [zrF, hk]
      rw [e1]
      by_cases h2 : k < n
      · rw [if_pos h2, if_pos (by omega), Int32.add_assoc, Int32.add_comm 1, ← Int32.add_assoc]
      · rw [if_neg h2, if_neg (by omega)]
set_option maxHeartbeats 4000000 in
theorem HR.newc {E : gE} {x xa xk : Nat} {ma pa ka : Nat → Nat} {z : Bool} {r : sg} {g g' : gm} (h : HR E x xa xk ma pa ka z r g) {k : Nat} (hk : k < 8) (hs : r 5 k = 0) {q0 : Nat}
    (e0 : g' q0 = some (.inr (0, [.int (nI k), .int 0, .int 0, .int 0, .int 0, .int 0, .int 0, .int 0, .int 0, .int 0, .int 0, .int 0]))) (e3 : g' xk = some (.inl (E.2 3, 8, .inr (.inr (.inr (.inr (va_up (krw r ka) k (some q0)))))))) (e4 : g' x = some (.inr (2, [.ref xa, .ref xk, .int (r 17 0), .int (nsetN r 8 + 1), .int (r 17 1), .int (tal z r 2), .int (tal z r 3), .int (tal z r 4), .int (tal z r 5), .int (tal z r 6)])))
    (e5 : ∀ a, a ≠ x → a ≠ xk → a ≠ q0 → g' a = g a) (f1 : g q0 = none) : HR E x xa xk ma pa (va_up ka k q0) z (zrF r k) g' := by
  obtain ⟨a1, a2, a3, a4, a5, a6, a7⟩ := h
  have rr : ∀ f, f < 5 ∨ 16 < f → zrF r k f = r f := fun f hf => by
    funext i
    simp only [zrF]
    rw [if_neg (by omega)]
  have rk : ∀ f i, i ≠ k → zrF r k f i = r f i := fun f i hi => by simp [zrF, hi]
  have en : nm (zrF r k) = nm r := by simp [nm, rr 17 (by decide)]
  refine ⟨?_, ?_, ?_, fun i hi => ?_, fun k' hk' hs' => ?_, fun i j hi hj => a6 i j (en ▸ hi) (en ▸ hj), en ▸ a7⟩
  · rw [e4]
    simp [hfs, tal, rr 17 (by decide), nset_zr hs, hk]
  · rw [e5 xa (ne_kd a2 a1 (by simp [kd])) (ne_kd a2 a3 (by simp [kd])) (ne_none f1 a2), a2, mrw_c en]
  · rw [e3]
    have : va_up (krw r ka) k (some q0) = krw (zrF r k) (va_up ka k q0) := by
      funext j
      by_cases hj : j = k
      · subst hj
        simp [krw, va_up, zrF]
      · simp [krw, va_up, hj, rk]
    rw [this]
  · rw [en] at hi
    obtain ⟨b1, ⟨f', b2, b3⟩, b4, b5⟩ := a4 i hi
    rw [e5 _ (ne_kd b1 a1 (by simp [kd])) (ne_kd b1 a3 (by simp [kd])) (ne_none f1 b1), e5 _ (ne_kd b2 a1 (by simp [kd])) (ne_kd b2 a3 (by simp [kd])) (ne_none f1 b2)]
    simp only [mfl, rr 0 (by decide), rr 1 (by decide), rr 2 (by decide), rr 3 (by decide), rr 4 (by decide)]
    exact ⟨b1, ⟨f', b2, b3⟩, b4, b5⟩
  · by_cases hkk : k' = k
    · subst hkk
      rw [va_up_self, e0]
      simp [kfl, zrF]
    · rw [rk 5 k' hkk] at hs'
      have b1 := a5 k' hk' hs'
      rw [va_up_ne _ _ hkk, e5 _ (ne_kd b1 a1 (by simp [kd])) (ne_kd b1 a3 (by simp [kd])) (ne_none f1 b1), b1]
      simp [kfl, rk _ k' hkk]

set_option maxHeartbeats 4000000 in
set_option maxRecDepth 100000 in
theorem k_X2_slip (l : Launch) {E : gE} {x xa xk : Nat} {ma pa ka : Nat → Nat} {z : Bool} {r : sg} {g : gm} (hR : HR E x xa xk ma pa ka z r g) (hn0 : ¬ r 17 0 < 0) (b st : Int32) : CM l yX2_slip cX2_slip 3 (some .int) ({ frames := 4, cells := 2, slots := 14, locals := 125 }) E [.ref (x), .int (b), .int (st)] g (fun vv g' => vv = some (.int (Fslip r b st).1) ∧ ∃ ma' pa', HR E x xa xk ma' pa' ka z (Fslip r b st).2 g') := by
  refine CM.of (by decide) (Nat.le_of_ble_eq_true rfl) ?_
  intro p e s m below meth c ls hM hK hW hl
  obtain ⟨hx, hb, hr, hml, hown, hts, hlk, hnm⟩ := hM
  have hown : s.vm.findClass RX2 = some m.cls := hown
  have hl : lv_has ls 3 [(0, .ref (x)), (1, .int (b)), (2, .int (st))] := hl
  refine lv_iload_n hx hb dX2_slip_0 rfl (lv_at hl 1 rfl) ?_
  refine lv_if_lt (tgt := 9) hx hb dX2_slip_1 (by decide) (fun c_178 => ?_) (fun c_178 => ?_)
  · skip
    refine lv_bipush (v := -2) hx hb dX2_slip_9 (by decide) ?_
    exact r_int hx hb hr hlk hW (by have e1 : Fslip r b st = (-2, r) := (by simp [Fslip, c_178]); rw [e1]; exact ⟨rfl, _, _, hR⟩) (Nat.le_of_ble_eq_true rfl) (Nat.le_of_ble_eq_true rfl) dX2_slip_11
  · skip
    refine lv_iload_n hx hb dX2_slip_4 rfl (lv_at hl 1 rfl) ?_
    refine lv_iconst (v := 2) hx hb dX2_slip_5 (by decide) ?_
    refine lv_icmp_le (tgt := 12) hx hb dX2_slip_6 (by decide) (fun c_179 => ?_) (fun c_179 => ?_)
    · skip
      have c_179 := Int32.not_lt.mpr c_179
      refine lv_aload_n hx hb dX2_slip_12 rfl (lv_at hl 0 rfl) ?_
      refine lv_iload_n hx hb dX2_slip_13 rfl (lv_at hl 1 rfl) ?_
      refine lv_iconst (v := 0) hx hb dX2_slip_14 (by decide) ?_
      refine lv_iconst (v := 0) hx hb dX2_slip_15 (by decide) ?_
      refine lv_iload_n hx hb dX2_slip_16 rfl (lv_at hl 2 rfl) ?_
      refine c_virt (own := RX2) (As := [.int (b), .int (0), .int (0), .int (st)]) (rest := []) hx hb hml hown hts hK hW (k_X2_enter l hR hn0 _ _ (n := 0) (by decide) _) ml_RX2_25 im_yX2_enter se_yX2_enter in_RX2 cd_yX2_enter 4 (by decide +kernel) ⟨Nat.le_of_ble_eq_true rfl, Nat.le_of_ble_eq_true rfl⟩ hR.1 rfl rfl rfl hl.1 rfl (Nat.le_of_ble_eq_true rfl) dX2_slip_17 ⟨Nat.le_of_ble_eq_true rfl, Nat.le_of_ble_eq_true rfl⟩ (fun v g2 H1 locs1 hp hW hKT => ?_)
      obtain ⟨rfl, hp⟩ := hp
      refine W.eq (g2 := F0 m 20 ls [.int (enterI r (0))]) rfl ?_
      exact r_int hx hb hr hlk hW (by exact slip_fin (P := fun r' => ∃ ma' pa', HR E x xa xk ma' pa' ka z r' g2) c_178 c_179 hp) (Nat.le_of_ble_eq_true rfl) (Nat.le_of_ble_eq_true rfl) dX2_slip_20
    · skip
      have c_179 := Int32.not_le.mp c_179
      refine lv_bipush (v := -2) hx hb dX2_slip_9 (by decide) ?_
      exact r_int hx hb hr hlk hW (by have e1 : Fslip r b st = (-2, r) := (by simp [Fslip, c_178, c_179]); rw [e1]; exact ⟨rfl, _, _, hR⟩) (Nat.le_of_ble_eq_true rfl) (Nat.le_of_ble_eq_true rfl) dX2_slip_11

set_option maxHeartbeats 4000000 in
set_option maxRecDepth 100000 in
theorem k_X2_bundle (l : Launch) {E : gE} {x xa xk : Nat} {ma pa ka : Nat → Nat} {z : Bool} {r : sg} {g : gm} (hR : HR E x xa xk ma pa ka z r g) (hn0 : ¬ r 17 0 < 0) (b d n : Int32) : CM l yX2_bundle cX2_bundle 4 (some .int) ({ frames := 4, cells := 2, slots := 14, locals := 125 }) E [.ref (x), .int (b), .int (d), .int (n)] g (fun vv g' => vv = some (.int (Fbundle r b d n).1) ∧ ∃ ma' pa', HR E x xa xk ma' pa' ka z (Fbundle r b d n).2 g') := by
  refine CM.of (by decide) (Nat.le_of_ble_eq_true rfl) ?_
  intro p e s m below meth c ls hM hK hW hl
  obtain ⟨hx, hb, hr, hml, hown, hts, hlk, hnm⟩ := hM
  have hown : s.vm.findClass RX2 = some m.cls := hown
  have hl : lv_has ls 4 [(0, .ref (x)), (1, .int (b)), (2, .int (d)), (3, .int (n))] := hl
  refine lv_iload_n hx hb dX2_bundle_0 rfl (lv_at hl 2 rfl) ?_
  refine lv_iconst (v := 1) hx hb dX2_bundle_1 (by decide) ?_
  refine lv_icmp_lt (tgt := 19) hx hb dX2_bundle_2 (by decide) (fun c_180 => ?_) (fun c_180 => ?_)
  · skip
    refine lv_bipush (v := -2) hx hb dX2_bundle_19 (by decide) ?_
    exact r_int hx hb hr hlk hW (by have e1 : Fbundle r b d n = (-2, r) := (by simp [Fbundle, c_180]); rw [e1]; exact ⟨rfl, _, _, hR⟩) (Nat.le_of_ble_eq_true rfl) (Nat.le_of_ble_eq_true rfl) dX2_bundle_21
  · skip
    refine lv_iload_n hx hb dX2_bundle_5 rfl (lv_at hl 1 rfl) ?_
    refine lv_iload_n hx hb dX2_bundle_6 rfl (lv_at hl 2 rfl) ?_
    refine c_stat (own := RX2) (As := [.int (b), .int (d)]) (rest := []) hx hb hml hown hts hK hW (k_X2_isKind l _ _) ml_RX2_29 st_yX2_isKind in_RX2 cd_yX2_isKind 2 (by decide +kernel) ⟨Nat.le_of_ble_eq_true rfl, Nat.le_of_ble_eq_true rfl⟩ rfl hl.1 rfl (Nat.le_of_ble_eq_true rfl) dX2_bundle_7 ⟨Nat.le_of_ble_eq_true rfl, Nat.le_of_ble_eq_true rfl⟩ (fun v g2 H1 locs1 hp hW hKT => ?_)
    obtain ⟨rfl, hg⟩ := hp
    rw [hg] at hW
    refine W.eq (g2 := F0 m 10 ls [.int (bI (kindB (b) (d)))]) rfl ?_
    refine lv_if_eq (tgt := 19) hx hb dX2_bundle_10 (by decide) (fun c_181 => ?_) (fun c_181 => ?_)
    · skip
      have c_181 := (bI_eq0 _).mp c_181
      refine lv_bipush (v := -2) hx hb dX2_bundle_19 (by decide) ?_
      exact r_int hx hb hr hlk hW (by have e1 : Fbundle r b d n = (-2, r) := (by simp [Fbundle, c_180, c_181]); rw [e1]; exact ⟨rfl, _, _, hR⟩) (Nat.le_of_ble_eq_true rfl) (Nat.le_of_ble_eq_true rfl) dX2_bundle_21
    · skip
      have c_181 := bI_ne0 c_181
      refine lv_iload_n hx hb dX2_bundle_13 rfl (lv_at hl 3 rfl) ?_
      refine lv_bipush (v := 8) hx hb dX2_bundle_14 (by decide) ?_
      refine lv_icmp_le (tgt := 22) hx hb dX2_bundle_16 (by decide) (fun c_182 => ?_) (fun c_182 => ?_)
      · skip
        have c_182 := Int32.not_lt.mpr c_182
        refine lv_aload_n hx hb dX2_bundle_22 rfl (lv_at hl 0 rfl) ?_
        refine lv_iload_n hx hb dX2_bundle_23 rfl (lv_at hl 1 rfl) ?_
        refine lv_iload_n hx hb dX2_bundle_24 rfl (lv_at hl 2 rfl) ?_
        refine lv_iload_n hx hb dX2_bundle_25 rfl (lv_at hl 3 rfl) ?_
        refine lv_iconst (v := 0) hx hb dX2_bundle_26 (by decide) ?_
        refine c_virt (own := RX2) (As := [.int (b), .int (d), .int (n), .int (0)]) (rest := []) hx hb hml hown hts hK hW (k_X2_enter l hR hn0 _ _ (ix_le8 c_182) _) ml_RX2_25 im_yX2_enter se_yX2_enter in_RX2 cd_yX2_enter 4 (by decide +kernel) ⟨Nat.le_of_ble_eq_true rfl, Nat.le_of_ble_eq_true rfl⟩ hR.1 rfl rfl rfl hl.1 rfl (Nat.le_of_ble_eq_true rfl) dX2_bundle_27 ⟨Nat.le_of_ble_eq_true rfl, Nat.le_of_ble_eq_true rfl⟩ (fun v g2 H1 locs1 hp hW hKT => ?_)
        obtain ⟨rfl, hp⟩ := hp
        refine W.eq (g2 := F0 m 30 ls [.int (enterI r (n))]) rfl ?_
        exact r_int hx hb hr hlk hW (by exact bundle_fin (P := fun r' => ∃ ma' pa', HR E x xa xk ma' pa' ka z r' g2) c_180 c_181 c_182 hp) (Nat.le_of_ble_eq_true rfl) (Nat.le_of_ble_eq_true rfl) dX2_bundle_30
      · skip
        have c_182 := Int32.not_le.mp c_182
        refine lv_bipush (v := -2) hx hb dX2_bundle_19 (by decide) ?_
        exact r_int hx hb hr hlk hW (by have e1 : Fbundle r b d n = (-2, r) := (by simp [Fbundle, c_180, c_181, c_182]); rw [e1]; exact ⟨rfl, _, _, hR⟩) (Nat.le_of_ble_eq_true rfl) (Nat.le_of_ble_eq_true rfl) dX2_bundle_21

set_option maxHeartbeats 4000000 in
set_option maxRecDepth 100000 in
theorem k_X2_counter (l : Launch) {E : gE} {x xa xk : Nat} {ma pa ka : Nat → Nat} {z : Bool} {r : sg} {g : gm} (hR : HR E x xa xk ma pa ka z r g) (a : Int32) (h5 : r 5 (ix a) = 0 ∨ r 5 (ix a) = 1) (b d f q : Int32) : CM l yX2_counter cX2_counter 7 (some .int) ({ frames := 2, cells := 1, slots := 12, locals := 60 }) E [.ref (x), .int (a), .int (b), .int (d), .int (f), .int (q)] g (fun vv g' => vv = some (.int (Fcounter r a b d f q).1) ∧ ∃ ka', HR E x xa xk ma pa ka' z (Fcounter r a b d f q).2 g') := by
  refine CM.of (by decide) (Nat.le_of_ble_eq_true rfl) ?_
  intro p e s m below meth c ls hM hK hW hl
  obtain ⟨hx, hb, hr, hml, hown, hts, hlk, hnm⟩ := hM
  have hown : s.vm.findClass RX2 = some m.cls := hown
  have hl : lv_has ls 7 [(0, .ref (x)), (1, .int (a)), (2, .int (b)), (3, .int (d)), (4, .int (f)), (5, .int (q))] := hl
  refine lv_iload_n hx hb dX2_counter_0 rfl (lv_at hl 1 rfl) ?_
  refine lv_if_lt (tgt := 28) hx hb dX2_counter_1 (by decide) (fun c_183 => ?_) (fun c_183 => ?_)
  · skip
    refine lv_bipush (v := -2) hx hb dX2_counter_28 (by decide) ?_
    exact r_int hx hb hr hlk hW (by have e1 : Fcounter r a b d f q = (-2, r) := (by simp [Fcounter, c_183]); rw [e1]; exact ⟨rfl, _, hR⟩) (Nat.le_of_ble_eq_true rfl) (Nat.le_of_ble_eq_true rfl) dX2_counter_30
  · skip
    refine lv_iload_n hx hb dX2_counter_4 rfl (lv_at hl 1 rfl) ?_
    refine lv_bipush (v := 8) hx hb dX2_counter_5 (by decide) ?_
    refine lv_icmp_ge (tgt := 28) hx hb dX2_counter_7 (by decide) (fun c_184 => ?_) (fun c_184 => ?_)
    · skip
      have c_184 := Int32.not_lt.mpr c_184
      refine lv_bipush (v := -2) hx hb dX2_counter_28 (by decide) ?_
      exact r_int hx hb hr hlk hW (by have e1 : Fcounter r a b d f q = (-2, r) := (by simp [Fcounter, c_183, c_184]); rw [e1]; exact ⟨rfl, _, hR⟩) (Nat.le_of_ble_eq_true rfl) (Nat.le_of_ble_eq_true rfl) dX2_counter_30
    · skip
      have c_184 := Int32.not_le.mp c_184
      refine lv_iload_n hx hb dX2_counter_10 rfl (lv_at hl 2 rfl) ?_
      refine lv_iload_n hx hb dX2_counter_11 rfl (lv_at hl 3 rfl) ?_
      refine c_stat (own := RX2) (As := [.int (b), .int (d)]) (rest := []) hx hb hml hown hts hK hW (k_X2_isKind l _ _) ml_RX2_29 st_yX2_isKind in_RX2 cd_yX2_isKind 2 (by decide +kernel) ⟨Nat.le_of_ble_eq_true rfl, Nat.le_of_ble_eq_true rfl⟩ rfl hl.1 rfl (Nat.le_of_ble_eq_true rfl) dX2_counter_12 ⟨Nat.le_of_ble_eq_true rfl, Nat.le_of_ble_eq_true rfl⟩ (fun v g2 H1 locs1 hp hW hKT => ?_)
      obtain ⟨rfl, hg⟩ := hp
      rw [hg] at hW
      refine W.eq (g2 := F0 m 15 ls [.int (bI (kindB (b) (d)))]) rfl ?_
      refine lv_if_eq (tgt := 28) hx hb dX2_counter_15 (by decide) (fun c_185 => ?_) (fun c_185 => ?_)
      · skip
        have c_185 := (bI_eq0 _).mp c_185
        refine lv_bipush (v := -2) hx hb dX2_counter_28 (by decide) ?_
        exact r_int hx hb hr hlk hW (by have e1 : Fcounter r a b d f q = (-2, r) := (by simp [Fcounter, c_183, c_184, c_185]); rw [e1]; exact ⟨rfl, _, hR⟩) (Nat.le_of_ble_eq_true rfl) (Nat.le_of_ble_eq_true rfl) dX2_counter_30
      · skip
        have c_185 := bI_ne0 c_185
        refine lv_iload hx hb dX2_counter_18 (lv_at hl 4 rfl) ?_
        refine lv_iload hx hb dX2_counter_20 (lv_at hl 5 rfl) ?_
        refine c_stat (own := RX2) (As := [.int (f), .int (q)]) (rest := []) hx hb hml hown hts hK hW (k_X2_isKind l _ _) ml_RX2_29 st_yX2_isKind in_RX2 cd_yX2_isKind 2 (by decide +kernel) ⟨Nat.le_of_ble_eq_true rfl, Nat.le_of_ble_eq_true rfl⟩ rfl hl.1 rfl (Nat.le_of_ble_eq_true rfl) dX2_counter_22 ⟨Nat.le_of_ble_eq_true rfl, Nat.le_of_ble_eq_true rfl⟩ (fun v g2 H1 locs1 hp hW hKT => ?_)
        obtain ⟨rfl, hg⟩ := hp
        rw [hg] at hW
        refine W.eq (g2 := F0 m 25 ls [.int (bI (kindB (f) (q)))]) rfl ?_
        refine lv_if_ne (tgt := 31) hx hb dX2_counter_25 (by decide) (fun c_186 => ?_) (fun c_186 => ?_)
        · skip
          have c_186 := bI_ne0 c_186
          refine lv_aload_n hx hb dX2_counter_31 rfl (lv_at hl 0 rfl) ?_
          refine g_get hx hb hts inlX2 rfl hown hK hW hR.1 1 (by decide) fl_RX2_17 (v := .ref (xk)) rfl dX2_counter_32 ?_
          refine lv_iload_n hx hb dX2_counter_35 rfl (lv_at hl 1 rfl) ?_
          refine g_aldC hx hb hK hW hR.2.2.1 (vin (n := 8) (by decide) c_183 c_184) dX2_counter_36 ?_
          have hk8 : ix a < 8 := (ix_lt (n := 8) (by decide) c_183).mpr c_184
          rcases h5 with h5 | h5
          · skip
            rw [show krw r ka (Int32.toNatClampNeg a) = none from if_pos h5]
            refine W.eq (g2 := F0 m 37 ls [.null]) rfl ?_
            refine lv_astoreN (lv' := [(6, .null), (0, .ref (x)), (1, .int (a)), (2, .int (b)), (3, .int (d)), (4, .int (f)), (5, .int (q))]) hx hb dX2_counter_37 hl (by decide) rfl (fun ls hl => ?_)
            refine lv_aloadN hx hb dX2_counter_39 (lv_at hl 0 rfl) ?_
            refine lv_ifnonnullN hx hb dX2_counter_41 ?_
            refine g_new (ci := 0) (fs := [.int 0, .int 0, .int 0, .int 0, .int 0, .int 0, .int 0, .int 0, .int 0, .int 0, .int 0, .int 0]) hx hb hts inlX0 rfl tyX0 tyX0_ok hown cl_RX2_15 ia_RX0 in_RX0 hK hW (fun j hj => by rcases (show j = 0 ∨ j = 1 ∨ j = 2 ∨ j = 3 ∨ j = 4 ∨ j = 5 ∨ j = 6 ∨ j = 7 ∨ j = 8 ∨ j = 9 ∨ j = 10 ∨ j = 11 by omega) with rfl | rfl | rfl | rfl | rfl | rfl | rfl | rfl | rfl | rfl | rfl | rfl <;> rfl) (Nat.le_of_ble_eq_true rfl) (Nat.le_of_ble_eq_true rfl) dX2_counter_44 (fun q0 H1 f1 hW => ?_)
            obtain ⟨g_187, ge_188⟩ : ∃ zz, zz = gu g q0 (.inr (0, [.int 0, .int 0, .int 0, .int 0, .int 0, .int 0, .int 0, .int 0, .int 0, .int 0, .int 0, .int 0])) := ⟨_, rfl⟩
            have hW : PW E (fr g s.heap.size) s.heap H1 locs1 g_187 := by rw [ge_188]; exact hW
            have h_190 : g_187 x = some (.inr (2, [.ref (xa), .ref (xk), .int (r 17 0), .int (nsetN r 8), .int (r 17 1), .int (tal z r 2), .int (tal z r 3), .int (tal z r 4), .int (tal z r 5), .int (tal z r 6)])) := ((congrFun ge_188 _).trans (gu_n _ _ (ne_none f1 hR.1))).trans hR.1
            have h_191 : g_187 xa = some (.inl (E.2 2, 60, .inr (.inr (.inr (.inr (mrw r ma)))))) := ((congrFun ge_188 _).trans (gu_n _ _ (ne_none f1 hR.2.1))).trans hR.2.1
            have h_192 : g_187 xk = some (.inl (E.2 3, 8, .inr (.inr (.inr (.inr (krw r ka)))))) := ((congrFun ge_188 _).trans (gu_n _ _ (ne_none f1 hR.2.2.1))).trans hR.2.2.1
            have h_189 : g_187 q0 = some (.inr (0, [.int 0, .int 0, .int 0, .int 0, .int 0, .int 0, .int 0, .int 0, .int 0, .int 0, .int 0, .int 0])) := (congrFun ge_188 _).trans (gu_s _ _ _)
            refine lv_dup hx hb dX2_counter_47 rfl ?_
            refine lv_iload_n hx hb dX2_counter_48 rfl (lv_at hl 2 rfl) ?_
            refine c_init (own := RX2) (As := [.int (a)]) (rest := [.ref (q0)]) hx hb hml hown hts hK hW (k_X0_init l h_189 _) ml_RX2_72 im_yX0_init in_RX0 cd_yX0_init rfl 1 (by decide +kernel) ⟨Nat.le_of_ble_eq_true rfl, Nat.le_of_ble_eq_true rfl⟩ rfl hl.1 rfl (Nat.le_of_ble_eq_true rfl) dX2_counter_49 ⟨Nat.le_of_ble_eq_true rfl, Nat.le_of_ble_eq_true rfl⟩ (fun v g2 H1 locs1 hp hW hKT => ?_)
            obtain ⟨rfl, hg⟩ := hp
            rw [hg] at hW
            refine W.eq (g2 := F0 m 52 ls [.ref (q0)]) rfl ?_
            obtain ⟨g_193, ge_194⟩ : ∃ zz, zz = gu g_187 q0 (.inr (0, [.int (a), .int (0), .int (0), .int (0), .int (0), .int (0), .int (0), .int (0), .int (0), .int (0), .int (0), .int (0)])) := ⟨_, rfl⟩
            have hW : PW E (fr g s.heap.size) s.heap H1 locs1 g_193 := by rw [ge_194]; exact hW
            have h_196 : g_193 x = some (.inr (2, [.ref (xa), .ref (xk), .int (r 17 0), .int (nsetN r 8), .int (r 17 1), .int (tal z r 2), .int (tal z r 3), .int (tal z r 4), .int (tal z r 5), .int (tal z r 6)])) := ((congrFun ge_194 _).trans (gu_n _ _ (ne_kd h_190 h_189 (by simp [kd])))).trans h_190
            have h_197 : g_193 xa = some (.inl (E.2 2, 60, .inr (.inr (.inr (.inr (mrw r ma)))))) := ((congrFun ge_194 _).trans (gu_n _ _ (ne_kd h_191 h_189 (by simp [kd])))).trans h_191
            have h_198 : g_193 xk = some (.inl (E.2 3, 8, .inr (.inr (.inr (.inr (krw r ka)))))) := ((congrFun ge_194 _).trans (gu_n _ _ (ne_kd h_192 h_189 (by simp [kd])))).trans h_192
            have h_195 : g_193 q0 = some (.inr (0, [.int (a), .int (0), .int (0), .int (0), .int (0), .int (0), .int (0), .int (0), .int (0), .int (0), .int (0), .int (0)])) := (congrFun ge_194 _).trans (gu_s _ _ _)
            refine lv_astore (lv' := [(6, .ref (q0)), (0, .ref (x)), (1, .int (a)), (2, .int (b)), (3, .int (d)), (4, .int (f)), (5, .int (q))]) hx hb dX2_counter_52 hl (by decide) rfl (fun ls hl => ?_)
            refine lv_aload_n hx hb dX2_counter_54 rfl (lv_at hl 1 rfl) ?_
            refine g_get hx hb hts inlX2 rfl hown hK hW h_196 1 (by decide) fl_RX2_17 (v := .ref (xk)) rfl dX2_counter_55 ?_
            refine lv_iload_n hx hb dX2_counter_58 rfl (lv_at hl 2 rfl) ?_
            refine lv_aload hx hb dX2_counter_59 (lv_at hl 0 rfl) ?_
            refine g_astC hx hb hK hW h_198 h_195 (vin (n := 8) (by decide) c_183 c_184) dX2_counter_61 (fun H1 locs1 hW => ?_)
            obtain ⟨g_199, ge_200⟩ : ∃ zz, zz = gu g_193 xk (.inl (E.2 3, 8, .inr (.inr (.inr (.inr (va_up (krw r ka) (ix a) (some q0))))))) := ⟨_, rfl⟩
            have hW : PW E (fr g s.heap.size) s.heap H1 locs1 g_199 := by rw [ge_200]; exact hW
            have h_202 : g_199 x = some (.inr (2, [.ref (xa), .ref (xk), .int (r 17 0), .int (nsetN r 8), .int (r 17 1), .int (tal z r 2), .int (tal z r 3), .int (tal z r 4), .int (tal z r 5), .int (tal z r 6)])) := ((congrFun ge_200 _).trans (gu_n _ _ (ne_kd h_196 h_198 (by simp [kd])))).trans h_196
            have h_203 : g_199 xa = some (.inl (E.2 2, 60, .inr (.inr (.inr (.inr (mrw r ma)))))) := ((congrFun ge_200 _).trans (gu_n _ _ (ne_kd h_197 h_198 (by simp [kd])))).trans h_197
            have h_204 : g_199 q0 = some (.inr (0, [.int (a), .int (0), .int (0), .int (0), .int (0), .int (0), .int (0), .int (0), .int (0), .int (0), .int (0), .int (0)])) := ((congrFun ge_200 _).trans (gu_n _ _ (ne_kd h_195 h_198 (by simp [kd])))).trans h_195
            have h_201 : g_199 xk = some (.inl (E.2 3, 8, .inr (.inr (.inr (.inr (va_up (krw r ka) (ix a) (some q0))))))) := (congrFun ge_200 _).trans (gu_s _ _ _)
            refine lv_aload_n hx hb dX2_counter_62 rfl (lv_at hl 1 rfl) ?_
            refine lv_dup hx hb dX2_counter_63 rfl ?_
            refine g_get hx hb hts inlX2 rfl hown hK hW h_202 3 (by decide) fl_RX2_75 (v := .int (nsetN r 8)) rfl dX2_counter_64 ?_
            refine lv_iconst (v := 1) hx hb dX2_counter_67 (by decide) ?_
            refine lv_iadd hx hb dX2_counter_68 ?_
            refine g_put hx hb hts inlX2 rfl tyX2 tyX2_ok nmX2 hown hK hW h_202 3 (by decide) fl_RX2_75 rfl rfl rfl (show 3 < 10 by decide) dX2_counter_69 (fun H1 locs1 hW => ?_)
            obtain ⟨g_205, ge_206⟩ : ∃ zz, zz = gu g_199 x (.inr (2, [.ref (xa), .ref (xk), .int (r 17 0), .int ((nsetN r 8) + (1)), .int (r 17 1), .int (tal z r 2), .int (tal z r 3), .int (tal z r 4), .int (tal z r 5), .int (tal z r 6)])) := ⟨_, rfl⟩
            have hW : PW E (fr g s.heap.size) s.heap H1 locs1 g_205 := by rw [ge_206]; exact hW
            have h_208 : g_205 xa = some (.inl (E.2 2, 60, .inr (.inr (.inr (.inr (mrw r ma)))))) := ((congrFun ge_206 _).trans (gu_n _ _ (ne_kd h_203 h_202 (by simp [kd])))).trans h_203
            have h_209 : g_205 xk = some (.inl (E.2 3, 8, .inr (.inr (.inr (.inr (va_up (krw r ka) (ix a) (some q0))))))) := ((congrFun ge_206 _).trans (gu_n _ _ (ne_kd h_201 h_202 (by simp [kd])))).trans h_201
            have h_210 : g_205 q0 = some (.inr (0, [.int (a), .int (0), .int (0), .int (0), .int (0), .int (0), .int (0), .int (0), .int (0), .int (0), .int (0), .int (0)])) := ((congrFun ge_206 _).trans (gu_n _ _ (ne_kd h_204 h_202 (by simp [kd])))).trans h_204
            have h_207 : g_205 x = some (.inr (2, [.ref (xa), .ref (xk), .int (r 17 0), .int ((nsetN r 8) + (1)), .int (r 17 1), .int (tal z r 2), .int (tal z r 3), .int (tal z r 4), .int (tal z r 5), .int (tal z r 6)])) := (congrFun ge_206 _).trans (gu_s _ _ _)
            have hR := HR.newc hR hk8 h5 (q0 := q0) (by rw [nI_ix c_183]; exact h_210) h_209 h_207 (fun y ha hb hc => ((congrFun ge_206 y).trans (gu_n _ _ ha)).trans (((congrFun ge_200 y).trans (gu_n _ _ hb)).trans (((congrFun ge_194 y).trans (gu_n _ _ hc)).trans ((congrFun ge_188 y).trans (gu_n _ _ hc))))) f1
            have hs : zrF r (ix a) 5 (ix a) ≠ 0 := by simp [zrF]
            have hl : lv_has ls 7 [(6, .ref (va_up ka (ix a) q0 (ix a))), (0, .ref (x)), (1, .int (a)), (2, .int (b)), (3, .int (d)), (4, .int (f)), (5, .int (q))] := by
              have e9 : va_up ka (ix a) q0 (ix a) = q0 := va_up_self _ _ _
              rw [e9]; exact hl
            refine lv_aload hx hb dX2_counter_72 (lv_at hl 0 rfl) ?_
            refine lv_iload_n hx hb dX2_counter_74 rfl (lv_at hl 3 rfl) ?_
            refine lv_iload_n hx hb dX2_counter_75 rfl (lv_at hl 4 rfl) ?_
            refine lv_iload hx hb dX2_counter_76 (lv_at hl 5 rfl) ?_
            refine lv_iload hx hb dX2_counter_78 (lv_at hl 6 rfl) ?_
            refine c_virt (own := RX2) (As := [.int (b), .int (d), .int (f), .int (q)]) (rest := []) hx hb hml hown hts hK hW (k_X0_setAnew l hR hk8 hs _ _ _ _) ml_RX2_78 im_yX0_setAnew se_yX0_setAnew in_RX0 cd_yX0_setAnew 4 (by decide +kernel) ⟨Nat.le_of_ble_eq_true rfl, Nat.le_of_ble_eq_true rfl⟩ (hR.2.2.2.2.1 _ hk8 hs) rfl rfl rfl hl.1 rfl (Nat.le_of_ble_eq_true rfl) dX2_counter_80 ⟨Nat.le_of_ble_eq_true rfl, Nat.le_of_ble_eq_true rfl⟩ (fun v g2 H1 locs1 hp hW hKT => ?_)
            obtain ⟨rfl, hR⟩ := hp
            refine W.eq (g2 := F0 m 83 ls []) rfl ?_
            refine lv_iconst (v := 1) hx hb dX2_counter_83 (by decide) ?_
            exact r_int hx hb hr hlk hW (by have e1 : Fcounter r a b d f q = (1, ctrF r (ix a) b d f q) := (by simp [Fcounter, c_183, c_184, c_185, c_186]); rw [e1]; exact ⟨rfl, _, by rw [set_zr] at hR; exact hR⟩) (Nat.le_of_ble_eq_true rfl) (Nat.le_of_ble_eq_true rfl) dX2_counter_84
          · skip
            have hs : r 5 (ix a) ≠ 0 := by rw [h5]; decide
            rw [show krw r ka (Int32.toNatClampNeg a) = some (ka (ix a)) from if_neg hs]
            refine W.eq (g2 := F0 m 37 ls [.ref (ka (ix a))]) rfl ?_
            refine lv_astore (lv' := [(6, .ref (ka (ix a))), (0, .ref (x)), (1, .int (a)), (2, .int (b)), (3, .int (d)), (4, .int (f)), (5, .int (q))]) hx hb dX2_counter_37 hl (by decide) rfl (fun ls hl => ?_)
            refine lv_aload hx hb dX2_counter_39 (lv_at hl 0 rfl) ?_
            refine lv_ifnonnull (tgt := 72) hx hb dX2_counter_41 (by decide) ?_
            refine lv_aload hx hb dX2_counter_72 (lv_at hl 0 rfl) ?_
            refine lv_iload_n hx hb dX2_counter_74 rfl (lv_at hl 3 rfl) ?_
            refine lv_iload_n hx hb dX2_counter_75 rfl (lv_at hl 4 rfl) ?_
            refine lv_iload hx hb dX2_counter_76 (lv_at hl 5 rfl) ?_
            refine lv_iload hx hb dX2_counter_78 (lv_at hl 6 rfl) ?_
            refine c_virt (own := RX2) (As := [.int (b), .int (d), .int (f), .int (q)]) (rest := []) hx hb hml hown hts hK hW (k_X0_setAnew l hR hk8 hs _ _ _ _) ml_RX2_78 im_yX0_setAnew se_yX0_setAnew in_RX0 cd_yX0_setAnew 4 (by decide +kernel) ⟨Nat.le_of_ble_eq_true rfl, Nat.le_of_ble_eq_true rfl⟩ (hR.2.2.2.2.1 _ hk8 hs) rfl rfl rfl hl.1 rfl (Nat.le_of_ble_eq_true rfl) dX2_counter_80 ⟨Nat.le_of_ble_eq_true rfl, Nat.le_of_ble_eq_true rfl⟩ (fun v g2 H1 locs1 hp hW hKT => ?_)
            obtain ⟨rfl, hR⟩ := hp
            refine W.eq (g2 := F0 m 83 ls []) rfl ?_
            refine lv_iconst (v := 1) hx hb dX2_counter_83 (by decide) ?_
            exact r_int hx hb hr hlk hW (by have e1 : Fcounter r a b d f q = (1, ctrF r (ix a) b d f q) := (by simp [Fcounter, c_183, c_184, c_185, c_186]); rw [e1]; exact ⟨rfl, _, by rw [set_ctr h5] at hR; exact hR⟩) (Nat.le_of_ble_eq_true rfl) (Nat.le_of_ble_eq_true rfl) dX2_counter_84
        · skip
          have c_186 := (bI_eq0 _).mp c_186
          refine lv_bipush (v := -2) hx hb dX2_counter_28 (by decide) ?_
          exact r_int hx hb hr hlk hW (by have e1 : Fcounter r a b d f q = (-2, r) := (by simp [Fcounter, c_183, c_184, c_185, c_186]); rw [e1]; exact ⟨rfl, _, hR⟩) (Nat.le_of_ble_eq_true rfl) (Nat.le_of_ble_eq_true rfl) dX2_counter_30
end
section
/-! the sending, as a function of the state -/
def tinc (r : sg) (j : Nat) : sg := s2 r 17 j (r 17 j + 1)
def inB (v n : Int32) : Bool := !decide (v < 0) && decide (v < n)
def wt (r : sg) (i : Nat) : Int32 := if r 1 i = 0 then 1 else r 3 i
def markS (r : sg) (k i : Nat) : Int32 := if r 10 k = 3 then r 2 i - r 13 k else if r 0 i = 1 then 2 * r 13 k else r 13 k
def markF (r : sg) (k i : Nat) : sg × Int32 := if r 1 i = 0 then (s2 r 2 i (markS r k i), 0) else if figB (r 0 i) (r 1 i) then (fillN r i (lowI (r 0 i) (r 13 k)) (ix (r 3 i)), 0) else if r 3 i = 0 then (r, 2) else (s2 r 4 (8 * i) (-1), 0)
def layF (r : sg) (k i : Nat) : sg × Int32 := if ¬ r 14 k = -1 ∧ fitB r (ix (r 14 k)) (r 10 k) (r 11 k - 1) = false then (r, 1) else if inB (r 13 k) (r 3 i) = false then (r, 2) else if holdB r i (r 14 k) = false then (r, 3) else (s2 r 4 (8 * i + ix (r 13 k)) (r 14 k), 0)
def openF (C : sg → Nat → sg × Int32) (r : sg) (k i : Nat) : sg × Int32 := if inB (r 13 k) (r 3 i) = false then (r, 2) else if r 4 (8 * i + ix (r 13 k)) = -1 then (r, 4) else ((C r (ix (r 4 (8 * i + ix (r 13 k))))).1, failI (C r (ix (r 4 (8 * i + ix (r 13 k))))).2)
def spreadF (C : sg → Nat → sg × Int32) (i : Nat) : Nat → Nat → sg → sg × Int32
  | 0, _, r => (r, 0)
  | n + 1, j, r => if r 4 (8 * i + j) = -1 then spreadF C i n (j + 1) r else if failI (C r (ix (r 4 (8 * i + j)))).2 = 0 then spreadF C i n (j + 1) (C r (ix (r 4 (8 * i + j)))).1 else ((C r (ix (r 4 (8 * i + j)))).1, failI (C r (ix (r 4 (8 * i + j)))).2)
def workF (C : sg → Nat → sg × Int32) (r : sg) (k i : Nat) : sg × Int32 := if r 12 k = 0 then (s2 r 13 k (r 13 k + wt r i), 0) else if r 12 k = 1 then markF r k i else if r 12 k = 2 then layF r k i else if r 12 k = 3 then openF C r k i else if r 12 k = 4 then spreadF C i (ix (r 3 i)) 0 r else (s2 r 14 k (nI i), 0)
def rem3 (a : Int32) : Int32 := a - a / 3 * 3
def fall1 (r : sg) (k : Nat) : sg := s2 r 16 k (r 16 k + 1)
def fall2 (r : sg) (k : Nat) : sg := if rem3 (r 16 k) = 0 then s2 r 6 k 1 else r
def fall4 (r : sg) (k : Nat) : sg := if r 17 6 = -1 then s2 r 17 6 (nI k) else r
def fallF (r : sg) (k : Nat) : sg := fall4 (tinc (fall2 (fall1 r k) k) 5) k
def jobF (C : sg → Nat → sg × Int32) (r : sg) (k i : Nat) : sg × Int32 := if fitB r i (r 10 k) (r 11 k) then workF C r k i else (r, 1)
def metF (r : sg) (k : Nat) : sg := s2 r 15 k (r 15 k + 1)
def overF (q : sg × Int32) (k : Nat) : sg × Int32 := if q.2 = 0 then (metF q.1 k, 0) else (fallF (metF q.1 k) k, q.2)
def meetF (C : sg → Nat → sg × Int32) (r : sg) (k i : Nat) : sg × Int32 := if r 17 2 < 16 then overF (jobF C (tinc r 2) k i) k else (r, 5)
def asksB (r : sg) (k i : Nat) : Bool := r 5 k != 0 && (r 6 k == 0 && fitB r i (r 8 k) (r 9 k))
def carryF : Nat → sg → Nat → sg × Int32
  | 0 => fun r _ => (tinc r 4, -4)
  | n + 1 => fun r i => if asksB r (7 - n) i then (if (meetF (carryF n) r (7 - n) i).2 = 0 then (tinc (meetF (carryF n) r (7 - n) i).1 3, nI (7 - n)) else if (meetF (carryF n) r (7 - n) i).2 = 5 ∨ (meetF (carryF n) r (7 - n) i).1 7 (7 - n) = 0 then ((meetF (carryF n) r (7 - n) i).1, -10 - (meetF (carryF n) r (7 - n) i).2) else carryF n (meetF (carryF n) r (7 - n) i).1 i) else carryF n r i
/-! what holds of every state -/
def IVk (r : sg) (k : Nat) : Prop := (r 5 k = 0 ∨ r 5 k = 1) ∧ ((r 6 k = 0 ∨ r 6 k = 1) ∧ ¬ r 11 k < 0) ∧ (r 7 k = 0 ∨ r 7 k = 1) ∧ (r 5 k ≠ 0 → (r 14 k = -1 ∨ isMb r (r 14 k) = true) ∧ ((r 12 k = 2 ∨ r 12 k = 3 ∨ r 12 k = 4) → figB (r 10 k) (r 11 k) = false))
def IVm (r : sg) (i : Nat) : Prop := ¬ r 1 i < 0 ∧ (r 1 i = 0 → r 3 i = 0) ∧ ¬ r 3 i < 0 ∧ ix (r 3 i) ≤ 8 ∧ (figB (r 0 i) (r 1 i) = false → ∀ j, j < ix (r 3 i) → r 4 (8 * i + j) = -1 ∨ isMb r (r 4 (8 * i + j)) = true)
def IV (r : sg) : Prop := ¬ r 17 0 < 0 ∧ nm r ≤ 60 ∧ (∀ i, i < nm r → IVm r i) ∧ ∀ k, k < 8 → IVk r k
/-- r' is a later state of a sending -/
def OK (r r' : sg) : Prop := IV r' ∧ (∀ f, f = 0 ∨ f = 1 ∨ f = 3 ∨ f = 5 ∨ (7 ≤ f ∧ f ≤ 12) → r' f = r f) ∧ r' 17 0 = r 17 0 ∧ r' 17 1 = r 17 1
theorem OK.rf {r : sg} (h : IV r) : OK r r := ⟨h, fun _ _ => rfl, rfl, rfl⟩
theorem OK.tr {r r1 r2 : sg} (h : OK r r1) (h2 : OK r1 r2) : OK r r2 := ⟨h2.1, fun f hf => (h2.2.1 f hf).trans (h.2.1 f hf), h2.2.2.1.trans h.2.2.1, h2.2.2.2.trans h.2.2.2⟩
theorem OK.cnt {r r1 : sg} (h : OK r r1) : nm r1 = nm r := by simp only [nm, h.2.2.1]
theorem isMb_c {r r' : sg} (h : r' 17 0 = r 17 0) (m : Int32) : isMb r' m = isMb r m := by rw [isMb, isMb, nm, nm, h]
/-- a state that differs in registers that no rule speaks of -/
theorem IV.inert {r r' : sg} (h : IV r) (h0 : ∀ f, f = 0 ∨ f = 1 ∨ f = 3 ∨ f = 4 ∨ f = 5 ∨ f = 6 ∨ (7 ≤ f ∧ f ≤ 12) ∨ f = 14 → r' f = r f) (h1 : r' 17 0 = r 17 0) (h2 : r' 17 1 = r 17 1) : OK r r' := by
  obtain ⟨a1, a2, a3, a4⟩ := h
  have en : nm r' = nm r := by simp only [nm, h1]
  refine ⟨⟨by rw [h1]; exact a1, by rw [en]; exact a2, fun i hi => ?_, fun k hk => ?_⟩, fun f hf => h0 f (by omega), h1, h2⟩
  · have := a3 i (en ▸ hi)
    simp only [IVm, h0 0 (by omega), h0 1 (by omega), h0 3 (by omega), h0 4 (by omega), isMb_c h1]
    exact this
  · have := a4 k hk
    simp only [IVk, h0 5 (by omega), h0 6 (by omega), h0 7 (by omega), h0 10 (by omega), h0 11 (by omega), h0 12 (by omega), h0 14 (by omega), isMb_c h1]
    exact this
theorem OK.in {r : sg} (h : IV r) {f j : Nat} (hf : f = 2 ∨ f = 13 ∨ f = 15 ∨ f = 16 ∨ (f = 17 ∧ 2 ≤ j)) (v : Int32) : OK r (s2 r f j v) :=
  h.inert (fun q hq => s2_f _ _ _ (by omega)) (by rw [s2_a, if_neg (by omega)]) (by rw [s2_a, if_neg (by omega)])
theorem OK.shut {r : sg} (h : IV r) {k : Nat} : OK r (s2 r 6 k 1) := by
  obtain ⟨a1, a2, a3, a4⟩ := h
  refine ⟨⟨a1, a2, a3, fun q hq => ?_⟩, fun f hf => s2_f _ _ _ (by omega), rfl, rfl⟩
  obtain ⟨b1, b2, b3, b4⟩ := a4 q hq
  refine ⟨b1, ⟨?_, b2.2⟩, b3, b4⟩
  rw [s2_a]
  by_cases hk : q = k
  · rw [if_pos ⟨rfl, hk⟩]; exact Or.inr rfl
  · rw [if_neg (fun z => hk z.2)]; exact b2.1
theorem OK.own {r : sg} (h : IV r) {k : Nat} {v : Int32} (hv : v = -1 ∨ isMb r v = true) : OK r (s2 r 14 k v) := by
  obtain ⟨a1, a2, a3, a4⟩ := h
  refine ⟨⟨a1, a2, a3, fun q hq => ?_⟩, fun f hf => s2_f _ _ _ (by omega), rfl, rfl⟩
  obtain ⟨b1, b2, b3, b4⟩ := a4 q hq
  refine ⟨b1, b2, b3, fun hs => ⟨?_, (b4 hs).2⟩⟩
  rw [s2_a]
  by_cases hk : q = k
  · rw [if_pos ⟨rfl, hk⟩]; exact hv
  · rw [if_neg (fun z => hk z.2)]; exact (b4 hs).1
theorem OK.item {r : sg} (h : IV r) {i : Nat} {r' : sg} (h0 : ∀ f, f ≠ 4 → r' f = r f) (h1 : ∀ i' j, i' ≠ i → j < 8 → r' 4 (8 * i' + j) = r 4 (8 * i' + j)) (h2 : i < nm r → figB (r 0 i) (r 1 i) = false → ∀ j, j < ix (r 3 i) → r' 4 (8 * i + j) = -1 ∨ isMb r (r' 4 (8 * i + j)) = true) : OK r r' := by
  obtain ⟨a1, a2, a3, a4⟩ := h
  have e17 := h0 17 (by decide)
  have en : nm r' = nm r := by simp only [nm, e17]
  have e0 : r' 17 0 = r 17 0 := by rw [e17]
  refine ⟨⟨by rw [e17]; exact a1, by rw [en]; exact a2, fun q hq => ?_, fun k hk => ?_⟩, fun f hf => h0 f (by omega), e0, by rw [e17]⟩
  · rw [en] at hq
    obtain ⟨b1, b2, b3, b4, b5⟩ := a3 q hq
    simp only [IVm, h0 0 (by decide), h0 1 (by decide), h0 3 (by decide), isMb_c e0]
    refine ⟨b1, b2, b3, b4, fun hf j hj => ?_⟩
    by_cases hqi : q = i
    · subst hqi
      exact h2 hq hf j hj
    · rw [h1 q j hqi (by omega)]
      exact b5 hf j hj
  · have := a4 k hk
    simp only [IVk, h0 5 (by omega), h0 6 (by omega), h0 7 (by omega), h0 10 (by omega), h0 11 (by omega), h0 12 (by omega), h0 14 (by omega), isMb_c e0]
    exact this
theorem OK.item1 {r : sg} (h : IV r) {i j : Nat} (hj : j < 8) {v : Int32} (hv : v = -1 ∨ isMb r v = true) : OK r (s2 r 4 (8 * i + j) v) := by
  refine OK.item h (i := i) (fun f hf => s2_f _ _ _ hf) (fun i' j' hi hj' => by rw [s2_a, if_neg (by omega)]) (fun hi hf q hq => ?_)
  rw [s2_a]
  by_cases hqj : 8 * i + q = 8 * i + j
  · rw [if_pos ⟨rfl, hqj⟩]; exact hv
  · rw [if_neg (fun z => hqj z.2)]
    exact (h.2.2.1 i hi).2.2.2.2 hf q hq
theorem OK.fill {r : sg} (h : IV r) {i n : Nat} (hn : n ≤ 8) {v : Int32} (hf : figB (r 0 i) (r 1 i) = true) : OK r (fillN r i v n) :=
  OK.item h (i := i) (fun f hf => by funext q; rw [fillN_a, if_neg (fun z => hf z.1)]) (fun i' j' hi hj' => by rw [fillN_a, if_neg (by omega)]) (fun _ hf2 => by rw [hf] at hf2; cases hf2)
theorem ix_lt8 {v n : Int32} (h : inB v n = true) (hn : ix n ≤ 8) : ix v < 8 := by
  simp only [inB, Bool.and_eq_true, Bool.not_eq_true', decide_eq_false_iff_not, decide_eq_true_eq] at h
  obtain ⟨h1, h2⟩ := h
  have h3 : ¬ n < 0 := fun q => by
    rw [Int32.lt_iff_toInt_lt] at q h2 h1
    simp at q h1
    omega
  rw [Int32.lt_iff_toInt_lt, ix_i h1, ix_i h3] at h2
  omega
theorem mark_ok {r : sg} (h : IV r) {k i : Nat} (hi : i < nm r) : OK r (markF r k i).1 := by
  unfold markF
  split
  · exact OK.in h (by omega) _
  · split
    · rename_i hf
      exact OK.fill h (h.2.2.1 i hi).2.2.2.1 hf
    · split
      · exact OK.rf h
      · exact OK.item1 h (j := 0) (by decide) (Or.inl rfl)
theorem lay_ok {r : sg} (h : IV r) {k i : Nat} (hk : k < 8) (hs : r 5 k ≠ 0) (hi : i < nm r) : OK r (layF r k i).1 := by
  unfold layF
  split
  · exact OK.rf h
  · split
    · exact OK.rf h
    · rename_i hb
      split
      · exact OK.rf h
      · exact OK.item1 h (ix_lt8 (by simpa using hb) (h.2.2.1 i hi).2.2.2.1) ((h.2.2.2 k hk).2.2.2 hs).1
theorem spread_ok {C : sg → Nat → sg × Int32} (hC : ∀ r i, IV r → i < nm r → OK r (C r i).1) {r0 : sg} {i : Nat} (hf : figB (r0 0 i) (r0 1 i) = false) : ∀ (n j : Nat) (r : sg), OK r0 r → i < nm r0 → j + n ≤ ix (r0 3 i) → OK r0 (spreadF C i n j r).1 := by
  intro n
  induction n with
  | zero => intro j r h _ _; exact h
  | succ n ih =>
    intro j r h hi hj
    unfold spreadF
    have hn := h.cnt
    have hv : ¬ r 4 (8 * i + j) = -1 → isMb r (r 4 (8 * i + j)) = true := fun q => ((h.1.2.2.1 i (by omega)).2.2.2.2 (by rw [h.2.1 0 (by omega), h.2.1 1 (by omega)]; exact hf) j (by rw [h.2.1 3 (by omega)]; omega)).resolve_left q
    split
    · exact ih (j + 1) r h hi (by omega)
    · rename_i hq
      have h1 := hC r (ix (r 4 (8 * i + j))) h.1 (isMb_lt (hv hq))
      split
      · exact ih (j + 1) _ (h.tr h1) hi (by omega)
      · exact h.tr h1
theorem pass_fig {a b d : Int32} (h : passB a b = true) (hf : figB b d = false) : figB a d = false := by
  simp only [passB, Bool.or_eq_true, Bool.and_eq_true, beq_iff_eq] at h
  rcases h with h | ⟨-, h | h⟩ | ⟨-, h⟩
  · rw [h]; exact hf
  · rw [h]; first | (simp [figB]; done) | (simp [figB]; decide)
  · rw [h]; first | (simp [figB]; done) | (simp [figB]; decide)
  · rw [h]; first | (simp [figB]; done) | (simp [figB]; decide)
theorem work_ok {C : sg → Nat → sg × Int32} (hC : ∀ r i, IV r → i < nm r → OK r (C r i).1) {r : sg} (h : IV r) {k i : Nat} (hk : k < 8) (hs : r 5 k ≠ 0) (hi : i < nm r) (hw : fitB r i (r 10 k) (r 11 k) = true) : OK r (workF C r k i).1 := by
  have hfig : (r 12 k = 2 ∨ r 12 k = 3 ∨ r 12 k = 4) → figB (r 0 i) (r 1 i) = false := fun q => by
    simp only [fitB, Bool.and_eq_true, beq_iff_eq] at hw
    rw [hw.1]
    exact pass_fig hw.2 (((h.2.2.2 k hk).2.2.2 hs).2 q)
  unfold workF
  split
  · exact OK.in h (by omega) _
  · split
    · exact mark_ok h hi
    · split
      · exact lay_ok h hk hs hi
      · split
        · rename_i hj
          unfold openF
          split
          · exact OK.rf h
          · rename_i hb
            split
            · exact OK.rf h
            · rename_i hq
              refine hC r _ h (isMb_lt (((h.2.2.1 i hi).2.2.2.2 (hfig (Or.inr (Or.inl hj))) _ ?_).resolve_left hq))
              have hb' : inB (r 13 k) (r 3 i) = true := by simpa using hb
              simp only [inB, Bool.and_eq_true, Bool.not_eq_true', decide_eq_false_iff_not, decide_eq_true_eq] at hb'
              have h3 := (h.2.2.1 i hi).2.2.1
              have h2 := hb'.2
              rw [Int32.lt_iff_toInt_lt, ix_i hb'.1, ix_i h3] at h2
              omega
        · split
          · rename_i hj
            exact spread_ok hC (hfig (Or.inr (Or.inr hj))) _ 0 r (OK.rf h) hi (by omega)
          · refine OK.own h (Or.inr ?_)
            have h60 := h.2.1
            simp only [isMb, nI_pos (show i < 2 ^ 31 by omega), ix, nI_clamp (show i < 2 ^ 31 by omega), hi]
            rfl
theorem fall_ok {r : sg} (h : IV r) {k : Nat} : OK r (fallF r k) := by
  have h1 : OK r (fall1 r k) := OK.in h (by omega) _
  have h2 : OK r (fall2 (fall1 r k) k) := by
    unfold fall2
    split
    · exact h1.tr (OK.shut h1.1)
    · exact h1
  have h3 : OK r (tinc (fall2 (fall1 r k) k) 5) := h2.tr (OK.in h2.1 (by omega) _)
  show OK r (fall4 (tinc (fall2 (fall1 r k) k) 5) k)
  unfold fall4
  split
  · exact h3.tr (OK.in h3.1 (by omega) _)
  · exact h3
theorem job_ok {C : sg → Nat → sg × Int32} (hC : ∀ r i, IV r → i < nm r → OK r (C r i).1) {r : sg} (h : IV r) {k i : Nat} (hk : k < 8) (hs : r 5 k ≠ 0) (hi : i < nm r) : OK r (jobF C r k i).1 := by
  unfold jobF
  split
  · rename_i hw
    exact work_ok hC h hk hs hi hw
  · exact OK.rf h
theorem meet_ok {C : sg → Nat → sg × Int32} (hC : ∀ r i, IV r → i < nm r → OK r (C r i).1) {r : sg} (h : IV r) {k i : Nat} (hk : k < 8) (hs : r 5 k ≠ 0) (hi : i < nm r) : OK r (meetF C r k i).1 := by
  unfold meetF
  split
  · have h1 : OK r (tinc r 2) := OK.in h (by omega) _
    have h2 := h1.tr (job_ok hC h1.1 hk (by rw [h1.2.1 5 (by omega)]; exact hs) (by rw [h1.cnt]; exact hi))
    have h3 : OK r (metF (jobF C (tinc r 2) k i).1 k) := h2.tr (OK.in h2.1 (by omega) _)
    unfold overF
    split
    · exact h3
    · exact h3.tr (fall_ok h3.1)
  · exact OK.rf h
theorem carry_ok : ∀ (n : Nat) (r : sg) (i : Nat), IV r → i < nm r → OK r (carryF n r i).1 := by
  intro n
  induction n with
  | zero => intro r i h hi; exact OK.in h (by omega) _
  | succ n ih =>
    intro r i h hi
    unfold carryF
    split
    · rename_i ha
      have hs : r 5 (7 - n) ≠ 0 := by
        simp only [asksB, Bool.and_eq_true, bne_iff_ne] at ha
        exact ha.1
      have h1 := meet_ok (fun r i => ih r i) h (k := 7 - n) (by omega) hs hi
      split
      · exact h1.tr (OK.in h1.1 (by omega) _)
      · split
        · exact h1
        · exact h1.tr (ih _ i h1.1 (by rw [h1.cnt]; exact hi))
    · exact ih r i h hi
end
section
theorem hasP0_t {r : sg} {i : Nat} (h : hasP r i 0 = true) : ¬ r 3 i = 0 := fun e => by
  simp [hasP, e] at h
theorem hasP_in {r : sg} {i : Nat} (hf : figB (r 0 i) (r 1 i) = false) (v : Int32) : hasP r i v = inB v (r 3 i) := by simp [hasP, inB, hf]
theorem hasP0_f {r : sg} {i : Nat} (hf : figB (r 0 i) (r 1 i) = false) (hn : ¬ r 3 i < 0) (h : hasP r i 0 = false) : r 3 i = 0 := by
  simp [hasP, hf] at h
  have h2 : (r 3 i).toInt ≤ 0 := Int32.le_iff_toInt_le.mp h
  have h3 := ix_i hn
  apply Int32.toInt_inj.mp
  show (r 3 i).toInt = 0
  omega
theorem isCb_N {r : sg} {k : Nat} (hk : k < 8) : isCb r (nI k) = (r 5 k != 0) := by
  have h1 : ¬ nI k < 0 := nI_pos (by omega)
  have h2 : nI k < 8 := (nI_ltI (b := 8) (by omega) (by decide)).mpr hk
  simp only [isCb, h1, h2, ix, nI_clamp (show k < 2 ^ 31 by omega)]
  simp

set_option maxHeartbeats 4000000 in
set_option maxRecDepth 100000 in
theorem k_X2_markedStamp (l : Launch) {E : gE} {x xa xk : Nat} {ma pa ka : Nat → Nat} {z : Bool} {r : sg} {g : gm} (hR : HR E x xa xk ma pa ka z r g) {k : Nat} (hk : k < 8) (hs : r 5 k ≠ 0) {i : Nat} (hi : i < nm r) : CM l yX2_markedStamp cX2_markedStamp 2 (some .int) ({ frames := 0, cells := 0, slots := 0, locals := 0 }) E [.ref (ka k), .ref (ma i)] g (fun vv g' => vv = some (.int (markS r k i)) ∧ g' = g) := by
  refine CM.of (by decide) (Nat.le_of_ble_eq_true rfl) ?_
  intro p e s m below meth c ls hM hK hW hl
  obtain ⟨hx, hb, hr, hml, hown, hts, hlk, hnm⟩ := hM
  have hown : s.vm.findClass RX2 = some m.cls := hown
  have hl : lv_has ls 2 [(0, .ref (ka k)), (1, .ref (ma i))] := hl
  refine lv_aload_n hx hb dX2_markedStamp_0 rfl (lv_at hl 0 rfl) ?_
  refine hk_get hx hb hts hown hK hW hR hk hs 3 (by decide) fl_RX2_181 (v := .int (r 10 k)) rfl dX2_markedStamp_1 ?_
  refine lv_iconst (v := 3) hx hb dX2_markedStamp_4 (by decide) ?_
  refine lv_icmp_ne (tgt := 18) hx hb dX2_markedStamp_5 (by decide) (fun c_211 => ?_) (fun c_211 => ?_)
  · skip
    refine lv_aload_n hx hb dX2_markedStamp_18 rfl (lv_at hl 1 rfl) ?_
    refine hm_get hx hb hts hown hK hW hR hi 1 (by decide) fl_RX2_69 (v := .int (r 0 i)) rfl dX2_markedStamp_19 ?_
    refine lv_iconst (v := 1) hx hb dX2_markedStamp_22 (by decide) ?_
    refine lv_icmp_ne (tgt := 35) hx hb dX2_markedStamp_23 (by decide) (fun c_212 => ?_) (fun c_212 => ?_)
    · skip
      refine lv_aload_n hx hb dX2_markedStamp_35 rfl (lv_at hl 0 rfl) ?_
      refine hk_get hx hb hts hown hK hW hR hk hs 6 (by decide) fl_RX2_92 (v := .int (r 13 k)) rfl dX2_markedStamp_36 ?_
      exact r_int hx hb hr hlk hW (by refine ⟨?_, rfl⟩; first | with_reducible rfl | (simp [bI, markS, c_211, c_212]; done) | (simp_all [bI, markS]; done)) (Nat.le_of_ble_eq_true rfl) (Nat.le_of_ble_eq_true rfl) dX2_markedStamp_39
    · skip
      refine lv_iconst (v := 2) hx hb dX2_markedStamp_26 (by decide) ?_
      refine lv_aload_n hx hb dX2_markedStamp_27 rfl (lv_at hl 0 rfl) ?_
      refine hk_get hx hb hts hown hK hW hR hk hs 6 (by decide) fl_RX2_92 (v := .int (r 13 k)) rfl dX2_markedStamp_28 ?_
      refine lv_imul hx hb dX2_markedStamp_31 ?_
      refine lv_goto (tgt := 39) hx hb dX2_markedStamp_32 (by decide) ?_
      exact r_int hx hb hr hlk hW (by refine ⟨?_, rfl⟩; first | with_reducible rfl | (simp [bI, markS, c_211, c_212]; done) | (simp_all [bI, markS]; done)) (Nat.le_of_ble_eq_true rfl) (Nat.le_of_ble_eq_true rfl) dX2_markedStamp_39
  · skip
    refine lv_aload_n hx hb dX2_markedStamp_8 rfl (lv_at hl 1 rfl) ?_
    refine hm_get hx hb hts hown hK hW hR hi 5 (by decide) fl_RX2_59 (v := .int (r 2 i)) rfl dX2_markedStamp_9 ?_
    refine lv_aload_n hx hb dX2_markedStamp_12 rfl (lv_at hl 0 rfl) ?_
    refine hk_get hx hb hts hown hK hW hR hk hs 6 (by decide) fl_RX2_92 (v := .int (r 13 k)) rfl dX2_markedStamp_13 ?_
    refine lv_isub hx hb dX2_markedStamp_16 ?_
    exact r_int hx hb hr hlk hW (by refine ⟨?_, rfl⟩; first | with_reducible rfl | (simp [bI, markS, c_211]; done) | (simp_all [bI, markS]; done)) (Nat.le_of_ble_eq_true rfl) (Nat.le_of_ble_eq_true rfl) dX2_markedStamp_17

set_option maxHeartbeats 4000000 in
set_option maxRecDepth 100000 in
theorem k_X2_mark (l : Launch) {E : gE} {x xa xk : Nat} {ma pa ka : Nat → Nat} {z : Bool} {r : sg} {g : gm} (hR : HR E x xa xk ma pa ka z r g) {k : Nat} (hk : k < 8) (hs : r 5 k ≠ 0) {i : Nat} (hi : i < nm r) : CM l yX2_mark cX2_mark 2 (some .int) ({ frames := 1, cells := 0, slots := 0, locals := 60 }) E [.ref (ka k), .ref (ma i)] g (fun vv g' => vv = some (.int (markF r k i).2) ∧ HR E x xa xk ma pa ka z (markF r k i).1 g') := by
  refine CM.of (by decide) (Nat.le_of_ble_eq_true rfl) ?_
  intro p e s m below meth c ls hM hK hW hl
  obtain ⟨hx, hb, hr, hml, hown, hts, hlk, hnm⟩ := hM
  have hown : s.vm.findClass RX2 = some m.cls := hown
  have hl : lv_has ls 2 [(0, .ref (ka k)), (1, .ref (ma i))] := hl
  refine lv_aload_n hx hb dX2_mark_0 rfl (lv_at hl 1 rfl) ?_
  refine hm_get hx hb hts hown hK hW hR hi 2 (by decide) fl_RX2_56 (v := .int (r 1 i)) rfl dX2_mark_1 ?_
  refine lv_if_ne (tgt := 18) hx hb dX2_mark_4 (by decide) (fun c_213 => ?_) (fun c_213 => ?_)
  · skip
    refine lv_aload_n hx hb dX2_mark_18 rfl (lv_at hl 1 rfl) ?_
    refine hm_get hx hb hts hown hK hW hR hi 3 (by decide) fl_RX2_175 (v := .int (bI (figB (r 0 i) (r 1 i)))) rfl dX2_mark_19 ?_
    refine lv_if_eq (tgt := 39) hx hb dX2_mark_22 (by decide) (fun c_214 => ?_) (fun c_214 => ?_)
    · skip
      have c_214 := (bI_eq0 _).mp c_214
      refine lv_aload_n hx hb dX2_mark_39 rfl (lv_at hl 1 rfl) ?_
      refine lv_iconst (v := 0) hx hb dX2_mark_40 (by decide) ?_
      refine c_virt (own := RX2) (As := [.int (0)]) (rest := []) hx hb hml hown hts hK hW (k_X1_hasMessagePlace l hR hi _) ml_RX2_37 im_yX1_hasMessagePlace se_yX1_hasMessagePlace in_RX1 cd_yX1_hasMessagePlace 1 (by decide +kernel) ⟨Nat.le_of_ble_eq_true rfl, Nat.le_of_ble_eq_true rfl⟩ (hR.2.2.2.1 _ hi).1 rfl rfl rfl hl.1 rfl (Nat.le_of_ble_eq_true rfl) dX2_mark_41 ⟨Nat.le_of_ble_eq_true rfl, Nat.le_of_ble_eq_true rfl⟩ (fun v g2 H1 locs1 hp hW hKT => ?_)
      obtain ⟨rfl, hg⟩ := hp
      rw [hg] at hW
      refine W.eq (g2 := F0 m 44 ls [.int (bI (hasP r i (0)))]) rfl ?_
      refine lv_if_ne (tgt := 49) hx hb dX2_mark_44 (by decide) (fun c_215 => ?_) (fun c_215 => ?_)
      · skip
        have c_215 := bI_ne0 c_215
        have hz_216 := hasP0_t c_215
        refine lv_aload_n hx hb dX2_mark_49 rfl (lv_at hl 1 rfl) ?_
        refine hm_get hx hb hts hown hK hW hR hi 4 (by decide) fl_RX2_45 (v := .ref (pa i)) rfl dX2_mark_50 ?_
        refine lv_iconst (v := 0) hx hb dX2_mark_53 (by decide) ?_
        refine lv_iconst (v := -1) hx hb dX2_mark_54 (by decide) ?_
        refine hp_ast hx hb hK hW hR hi (by decide) (hasP_lt c_215).2 dX2_mark_55 (fun H1 locs1 g1 hW hR => ?_)
        refine lv_iconst (v := 0) hx hb dX2_mark_56 (by decide) ?_
        exact r_int hx hb hr hlk hW (by have e1 : markF r k i = (s2 r 4 (8 * i + ix 0) (-1), 0) := (by first | (simp [markF, c_213, c_214, c_215, hz_216]; done) | (simp_all [markF]; done) | (simp [markF, c_213, c_214, c_215, hz_216]; rfl)); rw [e1]; exact ⟨rfl, hR⟩) (Nat.le_of_ble_eq_true rfl) (Nat.le_of_ble_eq_true rfl) dX2_mark_57
      · skip
        have c_215 := (bI_eq0 _).mp c_215
        have hz_217 := hasP0_f c_214 (hR.2.2.2.1 i hi).2.2.1 c_215
        refine lv_iconst (v := 2) hx hb dX2_mark_47 (by decide) ?_
        exact r_int hx hb hr hlk hW (by have e1 : markF r k i = (r, 2) := (by first | (simp [markF, c_213, c_214, c_215, hz_217]; done) | (simp_all [markF]; done) | (simp [markF, c_213, c_214, c_215, hz_217]; rfl)); rw [e1]; exact ⟨rfl, hR⟩) (Nat.le_of_ble_eq_true rfl) (Nat.le_of_ble_eq_true rfl) dX2_mark_48
    · skip
      have c_214 := bI_ne0 c_214
      refine lv_aload_n hx hb dX2_mark_25 rfl (lv_at hl 1 rfl) ?_
      refine lv_aload_n hx hb dX2_mark_26 rfl (lv_at hl 1 rfl) ?_
      refine lv_aload_n hx hb dX2_mark_27 rfl (lv_at hl 0 rfl) ?_
      refine hk_get hx hb hts hown hK hW hR hk hs 6 (by decide) fl_RX2_92 (v := .int (r 13 k)) rfl dX2_mark_28 ?_
      refine c_virt (own := RX2) (As := [.int (r 13 k)]) (rest := [.ref (ma i)]) hx hb hml hown hts hK hW (k_X1_lowestBits l hR hi _) ml_RX2_52 im_yX1_lowestBits se_yX1_lowestBits in_RX1 cd_yX1_lowestBits 1 (by decide +kernel) ⟨Nat.le_of_ble_eq_true rfl, Nat.le_of_ble_eq_true rfl⟩ (hR.2.2.2.1 _ hi).1 rfl rfl rfl hl.1 rfl (Nat.le_of_ble_eq_true rfl) dX2_mark_31 ⟨Nat.le_of_ble_eq_true rfl, Nat.le_of_ble_eq_true rfl⟩ (fun v g2 H1 locs1 hp hW hKT => ?_)
      obtain ⟨rfl, hg⟩ := hp
      rw [hg] at hW
      refine W.eq (g2 := F0 m 34 ls [.int (lowI (r 0 i) (r 13 k)), .ref (ma i)]) rfl ?_
      obtain ⟨b1, ⟨f, b2, b3⟩, b4, b5⟩ := hR.2.2.2.1 i hi
      refine c_virt (own := RX2) (As := [.int (lowI (r 0 i) (r 13 k))]) (rest := []) hx hb hml hown hts hK hW (k_X1_fill l b1 b2 (by omega) _) ml_RX2_178 im_yX1_fill se_yX1_fill in_RX1 cd_yX1_fill 1 (by decide +kernel) ⟨Nat.le_of_ble_eq_true rfl, Nat.le_of_ble_eq_true rfl⟩ (hR.2.2.2.1 _ hi).1 rfl rfl rfl hl.1 rfl (Nat.le_of_ble_eq_true rfl) dX2_mark_34 ⟨Nat.le_of_ble_eq_true rfl, Nat.le_of_ble_eq_true rfl⟩ (fun v g2 H1 locs1 hp hW hKT => ?_)
      obtain ⟨rfl, hg⟩ := hp
      rw [hg] at hW
      have hR := hR.row hi (r' := fillN r i (lowI (r 0 i) (r 13 k)) (ix (r 3 i))) (f' := filF f (lowI (r 0 i) (r 13 k)) (ix (r 3 i))) (fun q hq => by funext j; rw [fillN_a, if_neg (fun z9 => hq z9.1)]) (fun j hj => by rw [fillN_a, if_pos (by omega)]; simp [filF, hj]) (fun i' j hi' hj => by rw [fillN_a, if_neg (by omega)])
      refine W.eq (g2 := F0 m 37 ls []) rfl ?_
      refine lv_iconst (v := 0) hx hb dX2_mark_37 (by decide) ?_
      exact r_int hx hb hr hlk hW (by have e1 : markF r k i = (fillN r i (lowI (r 0 i) (r 13 k)) (ix (r 3 i)), 0) := (by first | (simp [markF, c_213, c_214]; done) | (simp_all [markF]; done) | (simp [markF, c_213, c_214]; rfl)); rw [e1]; exact ⟨rfl, hR⟩) (Nat.le_of_ble_eq_true rfl) (Nat.le_of_ble_eq_true rfl) dX2_mark_38
  · skip
    refine lv_aload_n hx hb dX2_mark_7 rfl (lv_at hl 1 rfl) ?_
    refine lv_aload_n hx hb dX2_mark_8 rfl (lv_at hl 0 rfl) ?_
    refine lv_aload_n hx hb dX2_mark_9 rfl (lv_at hl 1 rfl) ?_
    refine c_stat (own := RX2) (As := [.ref (ka k), .ref (ma i)]) (rest := [.ref (ma i)]) hx hb hml hown hts hK hW (k_X2_markedStamp l hR hk hs hi) ml_RX2_172 st_yX2_markedStamp in_RX2 cd_yX2_markedStamp 2 (by decide +kernel) ⟨Nat.le_of_ble_eq_true rfl, Nat.le_of_ble_eq_true rfl⟩ rfl hl.1 rfl (Nat.le_of_ble_eq_true rfl) dX2_mark_10 ⟨Nat.le_of_ble_eq_true rfl, Nat.le_of_ble_eq_true rfl⟩ (fun v g2 H1 locs1 hp hW hKT => ?_)
    obtain ⟨rfl, hg⟩ := hp
    rw [hg] at hW
    refine W.eq (g2 := F0 m 13 ls [.int (markS r k i), .ref (ma i)]) rfl ?_
    refine hm_put hx hb hts hown hK hW hR hi fl_RX2_59 dX2_mark_13 (fun H1 locs1 g1 hW hR => ?_)
    refine lv_iconst (v := 0) hx hb dX2_mark_16 (by decide) ?_
    exact r_int hx hb hr hlk hW (by have e1 : markF r k i = (s2 r 2 i (markS r k i), 0) := (by first | (simp [markF, c_213]; done) | (simp_all [markF]; done) | (simp [markF, c_213]; rfl)); rw [e1]; exact ⟨rfl, hR⟩) (Nat.le_of_ble_eq_true rfl) (Nat.le_of_ble_eq_true rfl) dX2_mark_17

set_option maxHeartbeats 4000000 in
set_option maxRecDepth 100000 in
theorem k_X2_lay (l : Launch) {E : gE} {x xa xk : Nat} {ma pa ka : Nat → Nat} {z : Bool} {r : sg} {g : gm} (hR : HR E x xa xk ma pa ka z r g) (hIV : IV r) {k : Nat} (hk : k < 8) (hs : r 5 k ≠ 0) {i : Nat} (hi : i < nm r) (hfig : figB (r 0 i) (r 1 i) = false) : CM l yX2_lay cX2_lay 4 (some .int) ({ frames := 3, cells := 0, slots := 0, locals := 120 }) E [.ref (x), .ref (ka k), .ref (ma i)] g (fun vv g' => vv = some (.int (layF r k i).2) ∧ HR E x xa xk ma pa ka z (layF r k i).1 g') := by
  refine CM.of (by decide) (Nat.le_of_ble_eq_true rfl) ?_
  intro p e s m below meth c ls hM hK hW hl
  obtain ⟨hx, hb, hr, hml, hown, hts, hlk, hnm⟩ := hM
  have hown : s.vm.findClass RX2 = some m.cls := hown
  have hl : lv_has ls 4 [(0, .ref (x)), (1, .ref (ka k)), (2, .ref (ma i))] := hl
  refine lv_aload_n hx hb dX2_lay_0 rfl (lv_at hl 0 rfl) ?_
  refine lv_aload_n hx hb dX2_lay_1 rfl (lv_at hl 1 rfl) ?_
  refine hk_get hx hb hts hown hK hW hR hk hs 7 (by decide) fl_RX2_95 (v := .int (r 14 k)) rfl dX2_lay_2 ?_
  refine c_virt (own := RX2) (As := [.int (r 14 k)]) (rest := []) hx hb hml hown hts hK hW (k_X2_messageAt l hR (r 14 k)) ml_RX2_33 im_yX2_messageAt se_yX2_messageAt in_RX2 cd_yX2_messageAt 1 (by decide +kernel) ⟨Nat.le_of_ble_eq_true rfl, Nat.le_of_ble_eq_true rfl⟩ hR.1 rfl rfl rfl hl.1 rfl (Nat.le_of_ble_eq_true rfl) dX2_lay_5 ⟨Nat.le_of_ble_eq_true rfl, Nat.le_of_ble_eq_true rfl⟩ (fun v g2 H1 locs1 hp hW hKT => ?_)
  obtain ⟨hp, hg⟩ := hp
  rw [hg] at hW
  rcases hp with ⟨em_218, rfl⟩ | ⟨em_219, rfl⟩
  · skip
    have ho_221 : r 14 k = -1 := ((hIV.2.2.2 k hk).2.2.2 hs).1.resolve_right (by rw [em_218]; simp)
    refine W.eq (g2 := F0 m 8 ls [.null]) rfl ?_
    refine lv_astore_nN (lv' := [(3, .null), (0, .ref (x)), (1, .ref (ka k)), (2, .ref (ma i))]) hx hb dX2_lay_8 rfl hl (by decide) rfl (fun ls hl => ?_)
    refine lv_aload_nN hx hb dX2_lay_9 rfl (lv_at hl 0 rfl) ?_
    refine lv_ifnullN (tgt := 32) hx hb dX2_lay_10 (by decide) ?_
    refine lv_aload_n hx hb dX2_lay_32 rfl (lv_at hl 3 rfl) ?_
    refine lv_aload_n hx hb dX2_lay_33 rfl (lv_at hl 2 rfl) ?_
    refine hk_get hx hb hts hown hK hW hR hk hs 6 (by decide) fl_RX2_92 (v := .int (r 13 k)) rfl dX2_lay_34 ?_
    refine c_virt (own := RX2) (As := [.int (r 13 k)]) (rest := []) hx hb hml hown hts hK hW (k_X1_hasMessagePlace l hR hi _) ml_RX2_37 im_yX1_hasMessagePlace se_yX1_hasMessagePlace in_RX1 cd_yX1_hasMessagePlace 1 (by decide +kernel) ⟨Nat.le_of_ble_eq_true rfl, Nat.le_of_ble_eq_true rfl⟩ (hR.2.2.2.1 _ hi).1 rfl rfl rfl hl.1 rfl (Nat.le_of_ble_eq_true rfl) dX2_lay_37 ⟨Nat.le_of_ble_eq_true rfl, Nat.le_of_ble_eq_true rfl⟩ (fun v g2 H1 locs1 hp hW hKT => ?_)
    obtain ⟨rfl, hg⟩ := hp
    rw [hg] at hW
    refine W.eq (g2 := F0 m 40 ls [.int (bI (hasP r i (r 13 k)))]) rfl ?_
    refine lv_if_ne (tgt := 45) hx hb dX2_lay_40 (by decide) (fun c_222 => ?_) (fun c_222 => ?_)
    · skip
      have c_222 := bI_ne0 c_222
      have hz_223 := c_222
      rw [hasP_in hfig] at hz_223
      refine lv_aload_n hx hb dX2_lay_45 rfl (lv_at hl 3 rfl) ?_
      refine lv_aload_nN hx hb dX2_lay_46 rfl (lv_at hl 0 rfl) ?_
      refine c_virt (own := RX2) (As := [.null]) (rest := []) hx hb hml hown hts hK hW (k_X1_holdsN l hR hi) ml_RX2_41 im_yX1_holds se_yX1_holds in_RX1 cd_yX1_holds 1 (by decide +kernel) ⟨Nat.le_of_ble_eq_true rfl, Nat.le_of_ble_eq_true rfl⟩ (hR.2.2.2.1 _ hi).1 rfl rfl rfl hl.1 rfl (Nat.le_of_ble_eq_true rfl) dX2_lay_47 ⟨Nat.le_of_ble_eq_true rfl, Nat.le_of_ble_eq_true rfl⟩ (fun v g2 H1 locs1 hp hW hKT => ?_)
      obtain ⟨rfl, hg⟩ := hp
      rw [hg] at hW
      refine W.eq (g2 := F0 m 50 ls [.int (bI true)]) rfl ?_
      refine lv_if_ne (tgt := 55) hx hb dX2_lay_50 (by decide) (fun c_224 => ?_) (fun c_224 => ?_)
      · skip
        have c_224 := bI_ne0 c_224
        refine lv_aload_n hx hb dX2_lay_55 rfl (lv_at hl 3 rfl) ?_
        refine hm_get hx hb hts hown hK hW hR hi 4 (by decide) fl_RX2_45 (v := .ref (pa i)) rfl dX2_lay_56 ?_
        refine lv_aload_n hx hb dX2_lay_59 rfl (lv_at hl 2 rfl) ?_
        refine hk_get hx hb hts hown hK hW hR hk hs 6 (by decide) fl_RX2_92 (v := .int (r 13 k)) rfl dX2_lay_60 ?_
        refine lv_aload_n hx hb dX2_lay_63 rfl (lv_at hl 2 rfl) ?_
        refine hk_get hx hb hts hown hK hW hR hk hs 7 (by decide) fl_RX2_95 (v := .int (r 14 k)) rfl dX2_lay_64 ?_
        refine hp_ast hx hb hK hW hR hi (hasP_lt c_222).1 (hasP_lt c_222).2 dX2_lay_67 (fun H1 locs1 g1 hW hR => ?_)
        refine lv_iconst (v := 0) hx hb dX2_lay_68 (by decide) ?_
        exact r_int hx hb hr hlk hW (by have e1 : layF r k i = (s2 r 4 (8 * i + ix (r 13 k)) (r 14 k), 0) := (by first | (simp [layF, holdB, em_218, ho_221, c_222, c_224, hz_223]; done) | (simp_all [layF, holdB]; done) | (simp [layF, holdB, em_218, ho_221, c_222, c_224, hz_223]; rfl)); rw [e1]; exact ⟨rfl, hR⟩) (Nat.le_of_ble_eq_true rfl) (Nat.le_of_ble_eq_true rfl) dX2_lay_69
      · skip
        have c_224 := (bI_eq0 _).mp c_224
        refine lv_iconst (v := 3) hx hb dX2_lay_53 (by decide) ?_
        exact r_int hx hb hr hlk hW (by have e1 : layF r k i = (r, 3) := (by first | (simp [layF, holdB, em_218, ho_221, c_222, c_224, hz_223]; done) | (simp_all [layF, holdB]; done) | (simp [layF, holdB, em_218, ho_221, c_222, c_224, hz_223]; rfl)); rw [e1]; exact ⟨rfl, hR⟩) (Nat.le_of_ble_eq_true rfl) (Nat.le_of_ble_eq_true rfl) dX2_lay_54
    · skip
      have c_222 := (bI_eq0 _).mp c_222
      have hz_225 := c_222
      rw [hasP_in hfig] at hz_225
      refine lv_iconst (v := 2) hx hb dX2_lay_43 (by decide) ?_
      exact r_int hx hb hr hlk hW (by have e1 : layF r k i = (r, 2) := (by first | (simp [layF, holdB, em_218, ho_221, c_222, hz_225]; done) | (simp_all [layF, holdB]; done) | (simp [layF, holdB, em_218, ho_221, c_222, hz_225]; rfl)); rw [e1]; exact ⟨rfl, hR⟩) (Nat.le_of_ble_eq_true rfl) (Nat.le_of_ble_eq_true rfl) dX2_lay_44
  · skip
    have hi_220 := isMb_lt em_219
    have nhi_220 := isMb_ne em_219
    refine W.eq (g2 := F0 m 8 ls [.ref (ma (ix (r 14 k)))]) rfl ?_
    refine lv_astore_n (lv' := [(3, .ref (ma (ix (r 14 k)))), (0, .ref (x)), (1, .ref (ka k)), (2, .ref (ma i))]) hx hb dX2_lay_8 rfl hl (by decide) rfl (fun ls hl => ?_)
    refine lv_aload_n hx hb dX2_lay_9 rfl (lv_at hl 0 rfl) ?_
    refine lv_ifnull hx hb dX2_lay_10 ?_
    refine lv_aload_n hx hb dX2_lay_13 rfl (lv_at hl 0 rfl) ?_
    refine lv_aload_n hx hb dX2_lay_14 rfl (lv_at hl 2 rfl) ?_
    refine hk_get hx hb hts hown hK hW hR hk hs 3 (by decide) fl_RX2_181 (v := .int (r 10 k)) rfl dX2_lay_15 ?_
    refine lv_aload_n hx hb dX2_lay_18 rfl (lv_at hl 2 rfl) ?_
    refine hk_get hx hb hts hown hK hW hR hk hs 4 (by decide) fl_RX2_184 (v := .int (r 11 k)) rfl dX2_lay_19 ?_
    refine lv_iconst (v := 1) hx hb dX2_lay_22 (by decide) ?_
    refine lv_isub hx hb dX2_lay_23 ?_
    refine c_virt (own := RX2) (As := [.int (r 10 k), .int ((r 11 k) - (1))]) (rest := []) hx hb hml hown hts hK hW (k_X1_fits l hR hi_220 _ _) ml_RX2_62 im_yX1_fits se_yX1_fits in_RX1 cd_yX1_fits 2 (by decide +kernel) ⟨Nat.le_of_ble_eq_true rfl, Nat.le_of_ble_eq_true rfl⟩ (hR.2.2.2.1 _ hi_220).1 rfl rfl rfl hl.1 rfl (Nat.le_of_ble_eq_true rfl) dX2_lay_24 ⟨Nat.le_of_ble_eq_true rfl, Nat.le_of_ble_eq_true rfl⟩ (fun v g2 H1 locs1 hp hW hKT => ?_)
    obtain ⟨rfl, hg⟩ := hp
    rw [hg] at hW
    refine W.eq (g2 := F0 m 27 ls [.int (bI (fitB r (ix (r 14 k)) (r 10 k) ((r 11 k) - (1))))]) rfl ?_
    refine lv_if_ne (tgt := 32) hx hb dX2_lay_27 (by decide) (fun c_226 => ?_) (fun c_226 => ?_)
    · skip
      have c_226 := bI_ne0 c_226
      refine lv_aload_n hx hb dX2_lay_32 rfl (lv_at hl 3 rfl) ?_
      refine lv_aload_n hx hb dX2_lay_33 rfl (lv_at hl 2 rfl) ?_
      refine hk_get hx hb hts hown hK hW hR hk hs 6 (by decide) fl_RX2_92 (v := .int (r 13 k)) rfl dX2_lay_34 ?_
      refine c_virt (own := RX2) (As := [.int (r 13 k)]) (rest := []) hx hb hml hown hts hK hW (k_X1_hasMessagePlace l hR hi _) ml_RX2_37 im_yX1_hasMessagePlace se_yX1_hasMessagePlace in_RX1 cd_yX1_hasMessagePlace 1 (by decide +kernel) ⟨Nat.le_of_ble_eq_true rfl, Nat.le_of_ble_eq_true rfl⟩ (hR.2.2.2.1 _ hi).1 rfl rfl rfl hl.1 rfl (Nat.le_of_ble_eq_true rfl) dX2_lay_37 ⟨Nat.le_of_ble_eq_true rfl, Nat.le_of_ble_eq_true rfl⟩ (fun v g2 H1 locs1 hp hW hKT => ?_)
      obtain ⟨rfl, hg⟩ := hp
      rw [hg] at hW
      refine W.eq (g2 := F0 m 40 ls [.int (bI (hasP r i (r 13 k)))]) rfl ?_
      refine lv_if_ne (tgt := 45) hx hb dX2_lay_40 (by decide) (fun c_227 => ?_) (fun c_227 => ?_)
      · skip
        have c_227 := bI_ne0 c_227
        have hz_228 := c_227
        rw [hasP_in hfig] at hz_228
        refine lv_aload_n hx hb dX2_lay_45 rfl (lv_at hl 3 rfl) ?_
        refine lv_aload_n hx hb dX2_lay_46 rfl (lv_at hl 0 rfl) ?_
        refine c_virt (own := RX2) (As := [.ref (ma (ix (r 14 k)))]) (rest := []) hx hb hml hown hts hK hW (k_X1_holds l hR hi hi_220) ml_RX2_41 im_yX1_holds se_yX1_holds in_RX1 cd_yX1_holds 1 (by decide +kernel) ⟨Nat.le_of_ble_eq_true rfl, Nat.le_of_ble_eq_true rfl⟩ (hR.2.2.2.1 _ hi).1 rfl rfl rfl hl.1 rfl (Nat.le_of_ble_eq_true rfl) dX2_lay_47 ⟨Nat.le_of_ble_eq_true rfl, Nat.le_of_ble_eq_true rfl⟩ (fun v g2 H1 locs1 hp hW hKT => ?_)
        obtain ⟨rfl, hg⟩ := hp
        rw [hg] at hW
        refine W.eq (g2 := F0 m 50 ls [.int (bI (fitB r (ix (r 14 k)) (r 0 i) (r 1 i - 1)))]) rfl ?_
        refine lv_if_ne (tgt := 55) hx hb dX2_lay_50 (by decide) (fun c_229 => ?_) (fun c_229 => ?_)
        · skip
          have c_229 := bI_ne0 c_229
          refine lv_aload_n hx hb dX2_lay_55 rfl (lv_at hl 3 rfl) ?_
          refine hm_get hx hb hts hown hK hW hR hi 4 (by decide) fl_RX2_45 (v := .ref (pa i)) rfl dX2_lay_56 ?_
          refine lv_aload_n hx hb dX2_lay_59 rfl (lv_at hl 2 rfl) ?_
          refine hk_get hx hb hts hown hK hW hR hk hs 6 (by decide) fl_RX2_92 (v := .int (r 13 k)) rfl dX2_lay_60 ?_
          refine lv_aload_n hx hb dX2_lay_63 rfl (lv_at hl 2 rfl) ?_
          refine hk_get hx hb hts hown hK hW hR hk hs 7 (by decide) fl_RX2_95 (v := .int (r 14 k)) rfl dX2_lay_64 ?_
          refine hp_ast hx hb hK hW hR hi (hasP_lt c_227).1 (hasP_lt c_227).2 dX2_lay_67 (fun H1 locs1 g1 hW hR => ?_)
          refine lv_iconst (v := 0) hx hb dX2_lay_68 (by decide) ?_
          exact r_int hx hb hr hlk hW (by have e1 : layF r k i = (s2 r 4 (8 * i + ix (r 13 k)) (r 14 k), 0) := (by first | (simp [layF, holdB, em_219, nhi_220, c_226, c_227, c_229, hz_228]; done) | (simp_all [layF, holdB]; done) | (simp [layF, holdB, em_219, nhi_220, c_226, c_227, c_229, hz_228]; rfl)); rw [e1]; exact ⟨rfl, hR⟩) (Nat.le_of_ble_eq_true rfl) (Nat.le_of_ble_eq_true rfl) dX2_lay_69
        · skip
          have c_229 := (bI_eq0 _).mp c_229
          refine lv_iconst (v := 3) hx hb dX2_lay_53 (by decide) ?_
          exact r_int hx hb hr hlk hW (by have e1 : layF r k i = (r, 3) := (by first | (simp [layF, holdB, em_219, nhi_220, c_226, c_227, c_229, hz_228]; done) | (simp_all [layF, holdB]; done) | (simp [layF, holdB, em_219, nhi_220, c_226, c_227, c_229, hz_228]; rfl)); rw [e1]; exact ⟨rfl, hR⟩) (Nat.le_of_ble_eq_true rfl) (Nat.le_of_ble_eq_true rfl) dX2_lay_54
      · skip
        have c_227 := (bI_eq0 _).mp c_227
        have hz_230 := c_227
        rw [hasP_in hfig] at hz_230
        refine lv_iconst (v := 2) hx hb dX2_lay_43 (by decide) ?_
        exact r_int hx hb hr hlk hW (by have e1 : layF r k i = (r, 2) := (by first | (simp [layF, holdB, em_219, nhi_220, c_226, c_227, hz_230]; done) | (simp_all [layF, holdB]; done) | (simp [layF, holdB, em_219, nhi_220, c_226, c_227, hz_230]; rfl)); rw [e1]; exact ⟨rfl, hR⟩) (Nat.le_of_ble_eq_true rfl) (Nat.le_of_ble_eq_true rfl) dX2_lay_44
    · skip
      have c_226 := (bI_eq0 _).mp c_226
      refine lv_iconst (v := 1) hx hb dX2_lay_30 (by decide) ?_
      exact r_int hx hb hr hlk hW (by have e1 : layF r k i = (r, 1) := (by first | (simp [layF, holdB, em_219, nhi_220, c_226]; done) | (simp_all [layF, holdB]; done) | (simp [layF, holdB, em_219, nhi_220, c_226]; rfl)); rw [e1]; exact ⟨rfl, hR⟩) (Nat.le_of_ble_eq_true rfl) (Nat.le_of_ble_eq_true rfl) dX2_lay_31

set_option maxHeartbeats 4000000 in
set_option maxRecDepth 100000 in
theorem k_X2_noteFall (l : Launch) {E : gE} {x xa xk : Nat} {ma pa ka : Nat → Nat} {r : sg} {g : gm} (hR : HR E x xa xk ma pa ka false r g) {k : Nat} (hk : k < 8) (hs : r 5 k ≠ 0) : CM l yX2_noteFall cX2_noteFall 2 none ({ frames := 0, cells := 0, slots := 0, locals := 0 }) E [.ref (x), .ref (ka k)] g (fun vv g' => vv = none ∧ HR E x xa xk ma pa ka false (fallF r k) g') := by
  refine CM.of (by decide) (Nat.le_of_ble_eq_true rfl) ?_
  intro p e s m below meth c ls hM hK hW hl
  obtain ⟨hx, hb, hr, hml, hown, hts, hlk, hnm⟩ := hM
  have hown : s.vm.findClass RX2 = some m.cls := hown
  have hl : lv_has ls 2 [(0, .ref (x)), (1, .ref (ka k))] := hl
  refine lv_aload_n hx hb dX2_noteFall_0 rfl (lv_at hl 1 rfl) ?_
  refine lv_dup hx hb dX2_noteFall_1 rfl ?_
  refine hk_get hx hb hts hown hK hW hR hk hs 11 (by decide) fl_RX2_127 (v := .int (r 16 k)) rfl dX2_noteFall_2 ?_
  refine lv_iconst (v := 1) hx hb dX2_noteFall_5 (by decide) ?_
  refine lv_iadd hx hb dX2_noteFall_6 ?_
  refine hk_put 16 hx hb hts hown hK hW hR hk hs 11 (by decide) fl_RX2_127 rfl rfl rfl (by decide) (by simp [s2_a]) dX2_noteFall_7 (fun H1 locs1 g1 hW hR => ?_)
  refine lv_aload_n hx hb dX2_noteFall_10 rfl (lv_at hl 1 rfl) ?_
  refine hk_get hx hb hts hown hK hW hR hk hs 11 (by decide) fl_RX2_127 (v := .int ((s2 r 16 k ((r 16 k) + (1))) 16 k)) rfl dX2_noteFall_11 ?_
  refine lv_iconst (v := 3) hx hb dX2_noteFall_14 (by decide) ?_
  refine lv_irem hx hb dX2_noteFall_15 (by decide) ?_
  refine lv_if_ne (tgt := 24) hx hb dX2_noteFall_16 (by decide) (fun c_231 => ?_) (fun c_231 => ?_)
  · skip
    refine lv_aload_n hx hb dX2_noteFall_24 rfl (lv_at hl 0 rfl) ?_
    refine lv_dup hx hb dX2_noteFall_25 rfl ?_
    refine h_get hx hb hts hown hK hW hR 8 (by decide) fl_RX2_117 (v := .int ((s2 r 16 k ((r 16 k) + (1))) 17 5)) rfl dX2_noteFall_26 ?_
    refine lv_iconst (v := 1) hx hb dX2_noteFall_29 (by decide) ?_
    refine lv_iadd hx hb dX2_noteFall_30 ?_
    refine h_tput 5 hx hb hts hown hK hW hR 8 (by decide) fl_RX2_117 rfl rfl (by decide) rfl dX2_noteFall_31 (fun H1 locs1 g1 hW hR => ?_)
    refine lv_aload_n hx hb dX2_noteFall_34 rfl (lv_at hl 0 rfl) ?_
    refine h_get hx hb hts hown hK hW hR 9 (by decide) fl_RX2_21 (v := .int ((s2 (s2 r 16 k ((r 16 k) + (1))) 17 5 (((s2 r 16 k ((r 16 k) + (1))) 17 5) + (1))) 17 6)) rfl dX2_noteFall_35 ?_
    refine lv_iconst (v := -1) hx hb dX2_noteFall_38 (by decide) ?_
    refine lv_icmp_ne (tgt := 50) hx hb dX2_noteFall_39 (by decide) (fun c_232 => ?_) (fun c_232 => ?_)
    · skip
      exact r_void hx hb hr hlk hW (by have e2 : fall2 (fall1 r k) k = fall1 r k := if_neg c_231; have e4 : fall4 (tinc (fall1 r k) 5) k = tinc (fall1 r k) 5 := if_neg c_232; have e1 : fallF r k = s2 (s2 r 16 k ((r 16 k) + (1))) 17 5 (((s2 r 16 k ((r 16 k) + (1))) 17 5) + (1)) := (by unfold fallF; rw [e2, e4]; rfl); rw [e1]; exact ⟨rfl, hR⟩) (Nat.le_of_ble_eq_true rfl) (Nat.le_of_ble_eq_true rfl) dX2_noteFall_50
    · skip
      refine lv_aload_n hx hb dX2_noteFall_42 rfl (lv_at hl 0 rfl) ?_
      refine lv_aload_n hx hb dX2_noteFall_43 rfl (lv_at hl 1 rfl) ?_
      refine hk_get hx hb hts hown hK hW hR hk hs 0 (by decide) fl_RX2_153 (v := .int (nI k)) rfl dX2_noteFall_44 ?_
      refine h_tput 6 hx hb hts hown hK hW hR 9 (by decide) fl_RX2_21 rfl rfl (by decide) rfl dX2_noteFall_47 (fun H1 locs1 g1 hW hR => ?_)
      exact r_void hx hb hr hlk hW (by have e2 : fall2 (fall1 r k) k = fall1 r k := if_neg c_231; have e4 : fall4 (tinc (fall1 r k) 5) k = s2 (tinc (fall1 r k) 5) 17 6 (nI k) := if_pos c_232; have e1 : fallF r k = s2 (s2 (s2 r 16 k ((r 16 k) + (1))) 17 5 (((s2 r 16 k ((r 16 k) + (1))) 17 5) + (1))) 17 6 (nI k) := (by unfold fallF; rw [e2, e4]; rfl); rw [e1]; exact ⟨rfl, hR⟩) (Nat.le_of_ble_eq_true rfl) (Nat.le_of_ble_eq_true rfl) dX2_noteFall_50
  · skip
    refine lv_aload_n hx hb dX2_noteFall_19 rfl (lv_at hl 1 rfl) ?_
    refine lv_iconst (v := 1) hx hb dX2_noteFall_20 (by decide) ?_
    refine hk_put 6 hx hb hts hown hK hW hR hk hs 9 (by decide) fl_RX2_102 rfl rfl rfl (by decide) (by simp [s2_a]) dX2_noteFall_21 (fun H1 locs1 g1 hW hR => ?_)
    refine lv_aload_n hx hb dX2_noteFall_24 rfl (lv_at hl 0 rfl) ?_
    refine lv_dup hx hb dX2_noteFall_25 rfl ?_
    refine h_get hx hb hts hown hK hW hR 8 (by decide) fl_RX2_117 (v := .int ((s2 (s2 r 16 k ((r 16 k) + (1))) 6 k (1)) 17 5)) rfl dX2_noteFall_26 ?_
    refine lv_iconst (v := 1) hx hb dX2_noteFall_29 (by decide) ?_
    refine lv_iadd hx hb dX2_noteFall_30 ?_
    refine h_tput 5 hx hb hts hown hK hW hR 8 (by decide) fl_RX2_117 rfl rfl (by decide) rfl dX2_noteFall_31 (fun H1 locs1 g1 hW hR => ?_)
    refine lv_aload_n hx hb dX2_noteFall_34 rfl (lv_at hl 0 rfl) ?_
    refine h_get hx hb hts hown hK hW hR 9 (by decide) fl_RX2_21 (v := .int ((s2 (s2 (s2 r 16 k ((r 16 k) + (1))) 6 k (1)) 17 5 (((s2 (s2 r 16 k ((r 16 k) + (1))) 6 k (1)) 17 5) + (1))) 17 6)) rfl dX2_noteFall_35 ?_
    refine lv_iconst (v := -1) hx hb dX2_noteFall_38 (by decide) ?_
    refine lv_icmp_ne (tgt := 50) hx hb dX2_noteFall_39 (by decide) (fun c_233 => ?_) (fun c_233 => ?_)
    · skip
      exact r_void hx hb hr hlk hW (by have e2 : fall2 (fall1 r k) k = s2 (fall1 r k) 6 k 1 := if_pos c_231; have e4 : fall4 (tinc (s2 (fall1 r k) 6 k 1) 5) k = tinc (s2 (fall1 r k) 6 k 1) 5 := if_neg c_233; have e1 : fallF r k = s2 (s2 (s2 r 16 k ((r 16 k) + (1))) 6 k (1)) 17 5 (((s2 (s2 r 16 k ((r 16 k) + (1))) 6 k (1)) 17 5) + (1)) := (by unfold fallF; rw [e2, e4]; rfl); rw [e1]; exact ⟨rfl, hR⟩) (Nat.le_of_ble_eq_true rfl) (Nat.le_of_ble_eq_true rfl) dX2_noteFall_50
    · skip
      refine lv_aload_n hx hb dX2_noteFall_42 rfl (lv_at hl 0 rfl) ?_
      refine lv_aload_n hx hb dX2_noteFall_43 rfl (lv_at hl 1 rfl) ?_
      refine hk_get hx hb hts hown hK hW hR hk hs 0 (by decide) fl_RX2_153 (v := .int (nI k)) rfl dX2_noteFall_44 ?_
      refine h_tput 6 hx hb hts hown hK hW hR 9 (by decide) fl_RX2_21 rfl rfl (by decide) rfl dX2_noteFall_47 (fun H1 locs1 g1 hW hR => ?_)
      exact r_void hx hb hr hlk hW (by have e2 : fall2 (fall1 r k) k = s2 (fall1 r k) 6 k 1 := if_pos c_231; have e4 : fall4 (tinc (s2 (fall1 r k) 6 k 1) 5) k = s2 (tinc (s2 (fall1 r k) 6 k 1) 5) 17 6 (nI k) := if_pos c_233; have e1 : fallF r k = s2 (s2 (s2 (s2 r 16 k ((r 16 k) + (1))) 6 k (1)) 17 5 (((s2 (s2 r 16 k ((r 16 k) + (1))) 6 k (1)) 17 5) + (1))) 17 6 (nI k) := (by unfold fallF; rw [e2, e4]; rfl); rw [e1]; exact ⟨rfl, hR⟩) (Nat.le_of_ble_eq_true rfl) (Nat.le_of_ble_eq_true rfl) dX2_noteFall_50
end
section
def CarryC (l : Launch) (E : gE) (x xa xk : Nat) (ma pa ka : Nat → Nat) (n : Nat) : Prop := ∀ (r : sg) (g : gm) (i : Nat) (cc : Int32), cc = nI (8 - n) → HR E x xa xk ma pa ka false r g → IV r → i < nm r → CM l yX2_carry cX2_carry 6 (some .int) ({ frames := 4 * n + 6, cells := 0, slots := 0, locals := 120 * n + 200 }) E [.ref x, .ref (ma i), .int cc] g (fun vv g' => vv = some (.int (carryF n r i).2) ∧ HR E x xa xk ma pa ka false (carryF n r i).1 g')
theorem w_fig {r : sg} (h : IV r) {k i : Nat} (hk : k < 8) (hs : r 5 k ≠ 0) (hw : fitB r i (r 10 k) (r 11 k) = true) (q : r 12 k = 2 ∨ r 12 k = 3 ∨ r 12 k = 4) : figB (r 0 i) (r 1 i) = false := by
  simp only [fitB, Bool.and_eq_true, beq_iff_eq] at hw
  rw [hw.1]
  exact pass_fig hw.2 (((h.2.2.2 k hk).2.2.2 hs).2 q)

set_option maxHeartbeats 4000000 in
set_option maxRecDepth 100000 in
theorem k_X2_open (l : Launch) {E : gE} {x xa xk : Nat} {ma pa ka : Nat → Nat} {r : sg} {g : gm} (hR : HR E x xa xk ma pa ka false r g) (hIV : IV r) {n k : Nat} (hnk : n + k = 7) (hk : k < 8) (hs : r 5 k ≠ 0) {i : Nat} (hi : i < nm r) (hfig : figB (r 0 i) (r 1 i) = false) (hC : CarryC l E x xa xk ma pa ka n) : CM l yX2_open cX2_open 4 (some .int) ({ frames := 4 * n + 7, cells := 0, slots := 0, locals := 120 * n + 230 }) E [.ref (x), .ref (ka k), .ref (ma i)] g (fun vv g' => vv = some (.int (openF (carryF n) r k i).2) ∧ HR E x xa xk ma pa ka false (openF (carryF n) r k i).1 g') := by
  refine CM.of (by decide) (Nat.le_of_ble_eq_true rfl) ?_
  intro p e s m below meth c ls hM hK hW hl
  obtain ⟨hx, hb, hr, hml, hown, hts, hlk, hnm⟩ := hM
  have hown : s.vm.findClass RX2 = some m.cls := hown
  have hl : lv_has ls 4 [(0, .ref (x)), (1, .ref (ka k)), (2, .ref (ma i))] := hl
  refine lv_aload_n hx hb dX2_open_0 rfl (lv_at hl 2 rfl) ?_
  refine lv_aload_n hx hb dX2_open_1 rfl (lv_at hl 1 rfl) ?_
  refine hk_get hx hb hts hown hK hW hR hk hs 6 (by decide) fl_RX2_92 (v := .int (r 13 k)) rfl dX2_open_2 ?_
  refine c_virt (own := RX2) (As := [.int (r 13 k)]) (rest := []) hx hb hml hown hts hK hW (k_X1_hasMessagePlace l hR hi _) ml_RX2_37 im_yX1_hasMessagePlace se_yX1_hasMessagePlace in_RX1 cd_yX1_hasMessagePlace 1 (by decide +kernel) ⟨show 0 + 1 ≤ 4 * n + 7 from by omega, show 8 + (2 + 11) + (0) ≤ 120 * n + 230 from by omega⟩ (hR.2.2.2.1 _ hi).1 rfl rfl rfl hl.1 rfl (Nat.le_of_ble_eq_true rfl) dX2_open_5 ⟨Nat.le_of_ble_eq_true rfl, Nat.le_of_ble_eq_true rfl⟩ (fun v g2 H1 locs1 hp hW hKT => ?_)
  obtain ⟨rfl, hg⟩ := hp
  rw [hg] at hW
  refine W.eq (g2 := F0 m 8 ls [.int (bI (hasP r i (r 13 k)))]) rfl ?_
  refine lv_if_ne (tgt := 13) hx hb dX2_open_8 (by decide) (fun c_234 => ?_) (fun c_234 => ?_)
  · skip
    have c_234 := bI_ne0 c_234
    have hz_235 := c_234
    rw [hasP_in hfig] at hz_235
    refine lv_aload_n hx hb dX2_open_13 rfl (lv_at hl 0 rfl) ?_
    refine lv_aload_n hx hb dX2_open_14 rfl (lv_at hl 2 rfl) ?_
    refine hm_get hx hb hts hown hK hW hR hi 4 (by decide) fl_RX2_45 (v := .ref (pa i)) rfl dX2_open_15 ?_
    refine lv_aload_n hx hb dX2_open_18 rfl (lv_at hl 1 rfl) ?_
    refine hk_get hx hb hts hown hK hW hR hk hs 6 (by decide) fl_RX2_92 (v := .int (r 13 k)) rfl dX2_open_19 ?_
    refine hp_ald hx hb hK hW hR hi (hasP_lt c_234).1 (hasP_lt c_234).2 dX2_open_22 ?_
    refine c_virt (own := RX2) (As := [.int (r 4 (8 * i + ix (r 13 k)))]) (rest := []) hx hb hml hown hts hK hW (k_X2_messageAt l hR (r 4 (8 * i + ix (r 13 k)))) ml_RX2_33 im_yX2_messageAt se_yX2_messageAt in_RX2 cd_yX2_messageAt 1 (by decide +kernel) ⟨show 0 + 1 ≤ 4 * n + 7 from by omega, show 8 + (2 + 11) + (0) ≤ 120 * n + 230 from by omega⟩ hR.1 rfl rfl rfl hl.1 rfl (Nat.le_of_ble_eq_true rfl) dX2_open_23 ⟨Nat.le_of_ble_eq_true rfl, Nat.le_of_ble_eq_true rfl⟩ (fun v g2 H1 locs1 hp hW hKT => ?_)
    obtain ⟨hp, hg⟩ := hp
    rw [hg] at hW
    rcases hp with ⟨em_236, rfl⟩ | ⟨em_237, rfl⟩
    · skip
      have ho_239 : r 4 (8 * i + ix (r 13 k)) = -1 := ((hIV.2.2.1 i hi).2.2.2.2 hfig _ (hasP_lt c_234).2).resolve_right (by rw [em_236]; simp)
      refine W.eq (g2 := F0 m 26 ls [.null]) rfl ?_
      refine lv_astore_nN (lv' := [(3, .null), (0, .ref (x)), (1, .ref (ka k)), (2, .ref (ma i))]) hx hb dX2_open_26 rfl hl (by decide) rfl (fun ls hl => ?_)
      refine lv_aload_nN hx hb dX2_open_27 rfl (lv_at hl 0 rfl) ?_
      refine lv_ifnonnullN hx hb dX2_open_28 ?_
      refine lv_iconst (v := 4) hx hb dX2_open_31 (by decide) ?_
      exact r_int hx hb hr hlk hW (by have e1 : openF (carryF n) r k i = (r, 4) := (by first | (simp [openF, c_234, em_236, ho_239, hz_235]; done) | (simp_all [openF]; done) | (simp [openF, c_234, em_236, ho_239, hz_235]; rfl)); rw [e1]; exact ⟨rfl, hR⟩) (Nat.le_of_ble_eq_true rfl) (Nat.le_of_ble_eq_true rfl) dX2_open_32
    · skip
      have hi_238 := isMb_lt em_237
      have nhi_238 := isMb_ne em_237
      refine W.eq (g2 := F0 m 26 ls [.ref (ma (ix (r 4 (8 * i + ix (r 13 k)))))]) rfl ?_
      refine lv_astore_n (lv' := [(3, .ref (ma (ix (r 4 (8 * i + ix (r 13 k)))))), (0, .ref (x)), (1, .ref (ka k)), (2, .ref (ma i))]) hx hb dX2_open_26 rfl hl (by decide) rfl (fun ls hl => ?_)
      refine lv_aload_n hx hb dX2_open_27 rfl (lv_at hl 0 rfl) ?_
      refine lv_ifnonnull (tgt := 33) hx hb dX2_open_28 (by decide) ?_
      refine lv_aload_n hx hb dX2_open_33 rfl (lv_at hl 1 rfl) ?_
      refine lv_aload_n hx hb dX2_open_34 rfl (lv_at hl 0 rfl) ?_
      refine lv_aload_n hx hb dX2_open_35 rfl (lv_at hl 2 rfl) ?_
      refine hk_get hx hb hts hown hK hW hR hk hs 0 (by decide) fl_RX2_153 (v := .int (nI k)) rfl dX2_open_36 ?_
      refine lv_iconst (v := 1) hx hb dX2_open_39 (by decide) ?_
      refine lv_iadd hx hb dX2_open_40 ?_
      refine c_virt (own := RX2) (As := [.ref (ma (ix (r 4 (8 * i + ix (r 13 k))))), .int ((nI k) + (1))]) (rest := []) hx hb hml hown hts hK hW (hC r _ (ix (r 4 (8 * i + ix (r 13 k)))) _ (by rw [nI_1]; congr 1; omega) hR hIV hi_238) ml_RX2_120 im_yX2_carry se_yX2_carry in_RX2 cd_yX2_carry 2 (by decide +kernel) ⟨show 4 * n + 6 + 1 ≤ 4 * n + 7 from by omega, show 8 + (6 + 11) + (120 * n + 200) ≤ 120 * n + 230 from by omega⟩ hR.1 rfl rfl rfl hl.1 rfl (Nat.le_of_ble_eq_true rfl) dX2_open_41 ⟨Nat.le_of_ble_eq_true rfl, Nat.le_of_ble_eq_true rfl⟩ (fun v g2 H1 locs1 hp hW hKT => ?_)
      obtain ⟨rfl, hR⟩ := hp
      refine W.eq (g2 := F0 m 44 ls [.int ((carryF n r (ix (r 4 (8 * i + ix (r 13 k))))).2)]) rfl ?_
      refine c_stat (own := RX2) (As := [.int ((carryF n r (ix (r 4 (8 * i + ix (r 13 k))))).2)]) (rest := []) hx hb hml hown hts hK hW (k_X2_failureOf l _) ml_RX2_187 st_yX2_failureOf in_RX2 cd_yX2_failureOf 1 (by decide +kernel) ⟨show 0 + 1 ≤ 4 * n + 7 from by omega, show 8 + (1 + 11) + (0) ≤ 120 * n + 230 from by omega⟩ rfl hl.1 rfl (Nat.le_of_ble_eq_true rfl) dX2_open_44 ⟨Nat.le_of_ble_eq_true rfl, Nat.le_of_ble_eq_true rfl⟩ (fun v g2 H1 locs1 hp hW hKT => ?_)
      obtain ⟨rfl, hg⟩ := hp
      rw [hg] at hW
      refine W.eq (g2 := F0 m 47 ls [.int (failI ((carryF n r (ix (r 4 (8 * i + ix (r 13 k))))).2))]) rfl ?_
      exact r_int hx hb hr hlk hW (by have e1 : openF (carryF n) r k i = ((carryF n r (ix (r 4 (8 * i + ix (r 13 k))))).1, failI ((carryF n r (ix (r 4 (8 * i + ix (r 13 k))))).2)) := (by first | (simp [openF, c_234, em_237, nhi_238, hz_235]; done) | (simp_all [openF]; done) | (simp [openF, c_234, em_237, nhi_238, hz_235]; rfl)); rw [e1]; exact ⟨rfl, hR⟩) (Nat.le_of_ble_eq_true rfl) (Nat.le_of_ble_eq_true rfl) dX2_open_47
  · skip
    have c_234 := (bI_eq0 _).mp c_234
    have hz_240 := c_234
    rw [hasP_in hfig] at hz_240
    refine lv_iconst (v := 2) hx hb dX2_open_11 (by decide) ?_
    exact r_int hx hb hr hlk hW (by have e1 : openF (carryF n) r k i = (r, 2) := (by first | (simp [openF, c_234, hz_240]; done) | (simp_all [openF]; done) | (simp [openF, c_234, hz_240]; rfl)); rw [e1]; exact ⟨rfl, hR⟩) (Nat.le_of_ble_eq_true rfl) (Nat.le_of_ble_eq_true rfl) dX2_open_12

set_option maxHeartbeats 4000000 in
set_option maxRecDepth 100000 in
theorem k_X2_spread (l : Launch) {E : gE} {x xa xk : Nat} {ma pa ka : Nat → Nat} {r0 : sg} {g : gm} (hR : HR E x xa xk ma pa ka false r0 g) (hIV : IV r0) {n k : Nat} (hnk : n + k = 7) (hk : k < 8) (hs : r0 5 k ≠ 0) {i : Nat} (hi : i < nm r0) (hfig : figB (r0 0 i) (r0 1 i) = false) (hC : CarryC l E x xa xk ma pa ka n) : CM l yX2_spread cX2_spread 6 (some .int) ({ frames := 4 * n + 7, cells := 0, slots := 0, locals := 120 * n + 230 }) E [.ref (x), .ref (ka k), .ref (ma i)] g (fun vv g' => vv = some (.int (spreadF (carryF n) i (ix (r0 3 i)) 0 r0).2) ∧ HR E x xa xk ma pa ka false (spreadF (carryF n) i (ix (r0 3 i)) 0 r0).1 g') := by
  refine CM.of (by decide) (Nat.le_of_ble_eq_true rfl) ?_
  intro p e s m below meth c ls hM hK hW hl
  obtain ⟨hx, hb, hr, hml, hown, hts, hlk, hnm⟩ := hM
  have hown : s.vm.findClass RX2 = some m.cls := hown
  have hl : lv_has ls 6 [(0, .ref (x)), (1, .ref (ka k)), (2, .ref (ma i))] := hl
  have h8 := (hIV.2.2.1 i hi).2.2.2.1
  have loop : ∀ (q j : Nat) (r : sg) (g1 : gm), OK r0 r → j + q = ix (r0 3 i) → spreadF (carryF n) i q j r = spreadF (carryF n) i (ix (r0 3 i)) 0 r0 → HR E x xa xk ma pa ka false r g1 → ∀ (H : Heap) (locs : List Loc) (ls : Array Slot), PW E (fr g s.heap.size) s.heap H locs g1 → lv_has ls 6 [(3, .int (nI j)), (0, .ref (x)), (1, .ref (ka k)), (2, .ref (ma i))] → W p l e ({ frames := 4 * n + 7, cells := 0, slots := 0, locals := 120 * n + 230 }) s m ([.ref (x), .ref (ka k), .ref (ma i)] : List Value).toArray below meth c H locs 0 0 (MQ below (QC E g s.heap.size (fun vv g' => vv = some (.int (spreadF (carryF n) i (ix (r0 3 i)) 0 r0).2) ∧ HR E x xa xk ma pa ka false (spreadF (carryF n) i (ix (r0 3 i)) 0 r0).1 g')) ([.ref (x), .ref (ka k), .ref (ma i)] : List Value).toArray s (Room.cells ({ frames := 4 * n + 7, cells := 0, slots := 0, locals := 120 * n + 230 })) (Room.slots ({ frames := 4 * n + 7, cells := 0, slots := 0, locals := 120 * n + 230 })) (fr g s.heap.size)) (F0 m 2 ls []) := by
    intro q
    induction q using Nat.strongRecOn with
    | _ q ih =>
      intro j r g1 hOK hjq hF hR H locs ls hW hl
      have hIV : IV r := hOK.1
      have hi : i < nm r := by rw [hOK.cnt]; exact hi
      have hs : r 5 k ≠ 0 := by rw [hOK.2.1 5 (by omega)]; exact hs
      have e3 : ix (r 3 i) = ix (r0 3 i) := by rw [hOK.2.1 3 (by omega)]
      refine lv_iload_n hx hb dX2_spread_2 rfl (lv_at hl 0 rfl) ?_
      refine lv_aload_n hx hb dX2_spread_3 rfl (lv_at hl 3 rfl) ?_
      refine hm_get hx hb hts hown hK hW hR hi 4 (by decide) fl_RX2_45 (v := .ref (pa i)) rfl dX2_spread_4 ?_
      refine hp_len hx hb hK hW hR hi dX2_spread_7 ?_
      refine lv_icmp_ge (tgt := 62) hx hb dX2_spread_8 (by decide) (fun c_241 => ?_) (fun c_241 => ?_)
      · skip
        have c_241 := Int32.not_lt.mpr c_241
        have hj0 : q = 0 := by
          rcases Nat.eq_zero_or_pos q with q1 | q1
          · exact q1
          · exact absurd (by rw [← nI_ix (hR.2.2.2.1 i hi).2.2.1, nI_ltI (by omega) (by omega), e3]; omega) c_241
        refine lv_iconst (v := 0) hx hb dX2_spread_62 (by decide) ?_
        exact r_int hx hb hr hlk hW (by rw [← hF, hj0]; exact ⟨rfl, hR⟩) (Nat.le_of_ble_eq_true rfl) (Nat.le_of_ble_eq_true rfl) dX2_spread_63
      · skip
        have c_241 := Int32.not_le.mp c_241
        have hj1 : j < ix (r 3 i) := by
          rw [← nI_ix (hR.2.2.2.1 i hi).2.2.1, nI_ltI (by omega) (by omega)] at c_241
          exact c_241
        obtain ⟨q2, rfl⟩ : ∃ q2, q = q2 + 1 := ⟨q - 1, by omega⟩
        refine lv_aload_n hx hb dX2_spread_11 rfl (lv_at hl 1 rfl) ?_
        refine lv_aload_n hx hb dX2_spread_12 rfl (lv_at hl 3 rfl) ?_
        refine hm_get hx hb hts hown hK hW hR hi 4 (by decide) fl_RX2_45 (v := .ref (pa i)) rfl dX2_spread_13 ?_
        refine lv_iload_n hx hb dX2_spread_16 rfl (lv_at hl 0 rfl) ?_
        have ej : ix (nI j) = j := nI_clamp (by omega)
        refine hp_ald hx hb hK hW hR hi (nI_pos (by omega)) (by rw [ej]; exact hj1) dX2_spread_17 ?_
        rw [ej]
        refine c_virt (own := RX2) (As := [.int (r 4 (8 * i + j))]) (rest := []) hx hb hml hown hts hK hW (k_X2_messageAt l hR (r 4 (8 * i + j))) ml_RX2_33 im_yX2_messageAt se_yX2_messageAt in_RX2 cd_yX2_messageAt 1 (by decide +kernel) ⟨show 0 + 1 ≤ 4 * n + 7 from by omega, show 8 + (2 + 11) + (0) ≤ 120 * n + 230 from by omega⟩ hR.1 rfl rfl rfl hl.1 rfl (Nat.le_of_ble_eq_true rfl) dX2_spread_18 ⟨Nat.le_of_ble_eq_true rfl, Nat.le_of_ble_eq_true rfl⟩ (fun v g2 H1 locs1 hp hW hKT => ?_)
        obtain ⟨hp, hg⟩ := hp
        rw [hg] at hW
        rcases hp with ⟨em_242, rfl⟩ | ⟨em_243, rfl⟩
        · skip
          have ho_245 : r 4 (8 * i + j) = -1 := ((hIV.2.2.1 i hi).2.2.2.2 (by rw [hOK.2.1 0 (by omega), hOK.2.1 1 (by omega)]; exact hfig) j hj1).resolve_right (by rw [em_242]; simp)
          refine W.eq (g2 := F0 m 21 ls [.null]) rfl ?_
          refine lv_astoreN (lv' := [(4, .null), (3, .int (nI j)), (0, .ref (x)), (1, .ref (ka k)), (2, .ref (ma i))]) hx hb dX2_spread_21 hl (by decide) rfl (fun ls hl => ?_)
          refine lv_aloadN hx hb dX2_spread_23 (lv_at hl 0 rfl) ?_
          refine lv_ifnonnullN hx hb dX2_spread_25 ?_
          refine lv_goto (tgt := 56) hx hb dX2_spread_28 (by decide) ?_
          refine lv_iinc (v := (nI j) + (1)) (lv' := [(3, .int ((nI j) + (1))), (4, .null), (0, .ref (x)), (1, .ref (ka k)), (2, .ref (ma i))]) hx hb dX2_spread_56 hl (k := 1) rfl rfl (by decide) rfl (fun ls hl => ?_)
          refine lv_goto (tgt := 2) hx hb dX2_spread_59 (by decide) ?_
          have e5 : spreadF (carryF n) i (q2 + 1) j r = spreadF (carryF n) i q2 (j + 1) (r) := by
            simp only [spreadF]
            simp [c_241, em_242, ho_245]
          exact ih q2 (by omega) (j + 1) _ _ hOK (by omega) (by rw [← e5]; exact hF) hR _ _ _ hW (by rw [← nI_1]; exact lv_sub hl [0, 2, 3, 4] rfl)
        · skip
          have hi_244 := isMb_lt em_243
          have nhi_244 := isMb_ne em_243
          refine W.eq (g2 := F0 m 21 ls [.ref (ma (ix (r 4 (8 * i + j))))]) rfl ?_
          refine lv_astore (lv' := [(4, .ref (ma (ix (r 4 (8 * i + j))))), (3, .int (nI j)), (0, .ref (x)), (1, .ref (ka k)), (2, .ref (ma i))]) hx hb dX2_spread_21 hl (by decide) rfl (fun ls hl => ?_)
          refine lv_aload hx hb dX2_spread_23 (lv_at hl 0 rfl) ?_
          refine lv_ifnonnull (tgt := 31) hx hb dX2_spread_25 (by decide) ?_
          refine lv_aload_n hx hb dX2_spread_31 rfl (lv_at hl 2 rfl) ?_
          refine lv_aload hx hb dX2_spread_32 (lv_at hl 0 rfl) ?_
          refine lv_aload_n hx hb dX2_spread_34 rfl (lv_at hl 3 rfl) ?_
          refine hk_get hx hb hts hown hK hW hR hk hs 0 (by decide) fl_RX2_153 (v := .int (nI k)) rfl dX2_spread_35 ?_
          refine lv_iconst (v := 1) hx hb dX2_spread_38 (by decide) ?_
          refine lv_iadd hx hb dX2_spread_39 ?_
          refine c_virt (own := RX2) (As := [.ref (ma (ix (r 4 (8 * i + j)))), .int ((nI k) + (1))]) (rest := []) hx hb hml hown hts hK hW (hC r _ (ix (r 4 (8 * i + j))) _ (by rw [nI_1]; congr 1; omega) hR hIV hi_244) ml_RX2_120 im_yX2_carry se_yX2_carry in_RX2 cd_yX2_carry 2 (by decide +kernel) ⟨show 4 * n + 6 + 1 ≤ 4 * n + 7 from by omega, show 8 + (6 + 11) + (120 * n + 200) ≤ 120 * n + 230 from by omega⟩ hR.1 rfl rfl rfl hl.1 rfl (Nat.le_of_ble_eq_true rfl) dX2_spread_40 ⟨Nat.le_of_ble_eq_true rfl, Nat.le_of_ble_eq_true rfl⟩ (fun v g2 H1 locs1 hp hW hKT => ?_)
          obtain ⟨rfl, hR⟩ := hp
          refine W.eq (g2 := F0 m 43 ls [.int ((carryF n r (ix (r 4 (8 * i + j)))).2)]) rfl ?_
          refine c_stat (own := RX2) (As := [.int ((carryF n r (ix (r 4 (8 * i + j)))).2)]) (rest := []) hx hb hml hown hts hK hW (k_X2_failureOf l _) ml_RX2_187 st_yX2_failureOf in_RX2 cd_yX2_failureOf 1 (by decide +kernel) ⟨show 0 + 1 ≤ 4 * n + 7 from by omega, show 8 + (1 + 11) + (0) ≤ 120 * n + 230 from by omega⟩ rfl hl.1 rfl (Nat.le_of_ble_eq_true rfl) dX2_spread_43 ⟨Nat.le_of_ble_eq_true rfl, Nat.le_of_ble_eq_true rfl⟩ (fun v g2 H1 locs1 hp hW hKT => ?_)
          obtain ⟨rfl, hg⟩ := hp
          rw [hg] at hW
          refine W.eq (g2 := F0 m 46 ls [.int (failI ((carryF n r (ix (r 4 (8 * i + j)))).2))]) rfl ?_
          refine lv_istore (lv' := [(5, .int (failI ((carryF n r (ix (r 4 (8 * i + j)))).2))), (4, .ref (ma (ix (r 4 (8 * i + j))))), (3, .int (nI j)), (0, .ref (x)), (1, .ref (ka k)), (2, .ref (ma i))]) hx hb dX2_spread_46 hl (by decide) rfl (fun ls hl => ?_)
          refine lv_iload hx hb dX2_spread_48 (lv_at hl 0 rfl) ?_
          refine lv_if_eq (tgt := 56) hx hb dX2_spread_50 (by decide) (fun c_246 => ?_) (fun c_246 => ?_)
          · skip
            refine lv_iinc (v := (nI j) + (1)) (lv' := [(3, .int ((nI j) + (1))), (5, .int (failI ((carryF n r (ix (r 4 (8 * i + j)))).2))), (4, .ref (ma (ix (r 4 (8 * i + j))))), (0, .ref (x)), (1, .ref (ka k)), (2, .ref (ma i))]) hx hb dX2_spread_56 hl (k := 2) rfl rfl (by decide) rfl (fun ls hl => ?_)
            refine lv_goto (tgt := 2) hx hb dX2_spread_59 (by decide) ?_
            have e5 : spreadF (carryF n) i (q2 + 1) j r = spreadF (carryF n) i q2 (j + 1) ((carryF n r (ix (r 4 (8 * i + j)))).1) := by
              simp only [spreadF]
              simp [c_241, em_243, nhi_244, c_246]
            exact ih q2 (by omega) (j + 1) _ _ (hOK.tr (carry_ok n r _ hIV hi_244)) (by omega) (by rw [← e5]; exact hF) hR _ _ _ hW (by rw [← nI_1]; exact lv_sub hl [0, 3, 4, 5] rfl)
          · skip
            refine lv_iload hx hb dX2_spread_53 (lv_at hl 0 rfl) ?_
            exact r_int hx hb hr hlk hW (by have e1 : spreadF (carryF n) i (q2 + 1) j r = ((carryF n r (ix (r 4 (8 * i + j)))).1, failI ((carryF n r (ix (r 4 (8 * i + j)))).2)) := (by simp only [spreadF]; simp [c_241, em_243, nhi_244, c_246]); rw [← hF, e1]; exact ⟨rfl, hR⟩) (Nat.le_of_ble_eq_true rfl) (Nat.le_of_ble_eq_true rfl) dX2_spread_55
  refine lv_iconst (v := 0) hx hb dX2_spread_0 (by decide) ?_
  refine lv_istore_n (lv' := [(3, .int (0)), (0, .ref (x)), (1, .ref (ka k)), (2, .ref (ma i))]) hx hb dX2_spread_1 rfl hl (by decide) rfl (fun ls hl => ?_)
  exact loop _ 0 r0 g (OK.rf hIV) (by omega) rfl hR _ _ _ hW (lv_sub hl [0, 1, 2, 3] rfl)

set_option maxHeartbeats 4000000 in
set_option maxRecDepth 100000 in
theorem k_X2_work (l : Launch) {E : gE} {x xa xk : Nat} {ma pa ka : Nat → Nat} {r : sg} {g : gm} (hR : HR E x xa xk ma pa ka false r g) (hIV : IV r) {n k : Nat} (hnk : n + k = 7) (hk : k < 8) (hs : r 5 k ≠ 0) {i : Nat} (hi : i < nm r) (hw : fitB r i (r 10 k) (r 11 k) = true) (hC : CarryC l E x xa xk ma pa ka n) : CM l yX2_work cX2_work 3 (some .int) ({ frames := 4 * n + 8, cells := 0, slots := 0, locals := 120 * n + 260 }) E [.ref (x), .ref (ka k), .ref (ma i)] g (fun vv g' => vv = some (.int (workF (carryF n) r k i).2) ∧ HR E x xa xk ma pa ka false (workF (carryF n) r k i).1 g') := by
  refine CM.of (by decide) (Nat.le_of_ble_eq_true rfl) ?_
  intro p e s m below meth c ls hM hK hW hl
  obtain ⟨hx, hb, hr, hml, hown, hts, hlk, hnm⟩ := hM
  have hown : s.vm.findClass RX2 = some m.cls := hown
  have hl : lv_has ls 3 [(0, .ref (x)), (1, .ref (ka k)), (2, .ref (ma i))] := hl
  refine lv_aload_n hx hb dX2_work_0 rfl (lv_at hl 1 rfl) ?_
  refine hk_get hx hb hts hown hK hW hR hk hs 5 (by decide) fl_RX2_89 (v := .int (r 12 k)) rfl dX2_work_1 ?_
  by_cases c_247 : r 12 k = 0
  · skip
    refine lv_tableIn (tgt := 40) hx hb dX2_work_4 (by rw [c_247]; decide) (by rw [c_247]; decide) (by rw [c_247]; rfl) (by decide) ?_
    refine lv_aload_n hx hb dX2_work_40 rfl (lv_at hl 1 rfl) ?_
    refine lv_dup hx hb dX2_work_41 rfl ?_
    refine hk_get hx hb hts hown hK hW hR hk hs 6 (by decide) fl_RX2_92 (v := .int (r 13 k)) rfl dX2_work_42 ?_
    refine lv_aload_n hx hb dX2_work_45 rfl (lv_at hl 2 rfl) ?_
    refine c_virt (own := RX2) (As := []) (rest := [.int (r 13 k), .ref (ka k)]) hx hb hml hown hts hK hW (k_X1_weight l hR hi) ml_RX2_156 im_yX1_weight se_yX1_weight in_RX1 cd_yX1_weight 0 (by decide +kernel) ⟨show 0 + 1 ≤ 4 * n + 8 from by omega, show 8 + (1 + 11) + (0) ≤ 120 * n + 260 from by omega⟩ (hR.2.2.2.1 _ hi).1 rfl rfl rfl hl.1 rfl (Nat.le_of_ble_eq_true rfl) dX2_work_46 ⟨Nat.le_of_ble_eq_true rfl, Nat.le_of_ble_eq_true rfl⟩ (fun v g2 H1 locs1 hp hW hKT => ?_)
    obtain ⟨rfl, hg⟩ := hp
    rw [hg] at hW
    refine W.eq (g2 := F0 m 49 ls [.int (if r 1 i = 0 then 1 else r 3 i), .int (r 13 k), .ref (ka k)]) rfl ?_
    refine lv_iadd hx hb dX2_work_49 ?_
    refine hk_put 13 hx hb hts hown hK hW hR hk hs 6 (by decide) fl_RX2_92 rfl rfl rfl (by decide) (by simp [s2_a]) dX2_work_50 (fun H1 locs1 g1 hW hR => ?_)
    refine lv_iconst (v := 0) hx hb dX2_work_53 (by decide) ?_
    exact r_int hx hb hr hlk hW (by have e1 : workF (carryF n) r k i = (s2 r 13 k ((r 13 k) + (if r 1 i = 0 then 1 else r 3 i)), 0) := (by simp [workF, wt, c_247]); rw [e1]; exact ⟨rfl, hR⟩) (Nat.le_of_ble_eq_true rfl) (Nat.le_of_ble_eq_true rfl) dX2_work_54
  by_cases c_248 : r 12 k = 1
  · skip
    refine lv_tableIn (tgt := 55) hx hb dX2_work_4 (by rw [c_248]; decide) (by rw [c_248]; decide) (by rw [c_248]; rfl) (by decide) ?_
    refine lv_aload_n hx hb dX2_work_55 rfl (lv_at hl 1 rfl) ?_
    refine lv_aload_n hx hb dX2_work_56 rfl (lv_at hl 2 rfl) ?_
    refine c_stat (own := RX2) (As := [.ref (ka k), .ref (ma i)]) (rest := []) hx hb hml hown hts hK hW (k_X2_mark l hR hk hs hi) ml_RX2_160 st_yX2_mark in_RX2 cd_yX2_mark 2 (by decide +kernel) ⟨show 1 + 1 ≤ 4 * n + 8 from by omega, show 8 + (2 + 11) + (60) ≤ 120 * n + 260 from by omega⟩ rfl hl.1 rfl (Nat.le_of_ble_eq_true rfl) dX2_work_57 ⟨Nat.le_of_ble_eq_true rfl, Nat.le_of_ble_eq_true rfl⟩ (fun v g2 H1 locs1 hp hW hKT => ?_)
    obtain ⟨rfl, hR⟩ := hp
    refine W.eq (g2 := F0 m 60 ls [.int ((markF r k i).2)]) rfl ?_
    exact r_int hx hb hr hlk hW (by have e1 : workF (carryF n) r k i = ((markF r k i).1, (markF r k i).2) := (by simp [workF, wt, c_247, c_248]); rw [e1]; exact ⟨rfl, hR⟩) (Nat.le_of_ble_eq_true rfl) (Nat.le_of_ble_eq_true rfl) dX2_work_60
  by_cases c_249 : r 12 k = 2
  · skip
    refine lv_tableIn (tgt := 61) hx hb dX2_work_4 (by rw [c_249]; decide) (by rw [c_249]; decide) (by rw [c_249]; rfl) (by decide) ?_
    refine lv_aload_n hx hb dX2_work_61 rfl (lv_at hl 0 rfl) ?_
    refine lv_aload_n hx hb dX2_work_62 rfl (lv_at hl 1 rfl) ?_
    refine lv_aload_n hx hb dX2_work_63 rfl (lv_at hl 2 rfl) ?_
    refine c_virt (own := RX2) (As := [.ref (ka k), .ref (ma i)]) (rest := []) hx hb hml hown hts hK hW (k_X2_lay l hR hIV hk hs hi (w_fig hIV hk hs hw (Or.inl c_249))) ml_RX2_163 im_yX2_lay se_yX2_lay in_RX2 cd_yX2_lay 2 (by decide +kernel) ⟨show 3 + 1 ≤ 4 * n + 8 from by omega, show 8 + (4 + 11) + (120) ≤ 120 * n + 260 from by omega⟩ hR.1 rfl rfl rfl hl.1 rfl (Nat.le_of_ble_eq_true rfl) dX2_work_64 ⟨Nat.le_of_ble_eq_true rfl, Nat.le_of_ble_eq_true rfl⟩ (fun v g2 H1 locs1 hp hW hKT => ?_)
    obtain ⟨rfl, hR⟩ := hp
    refine W.eq (g2 := F0 m 67 ls [.int ((layF r k i).2)]) rfl ?_
    exact r_int hx hb hr hlk hW (by have e1 : workF (carryF n) r k i = ((layF r k i).1, (layF r k i).2) := (by simp [workF, wt, c_247, c_248, c_249]); rw [e1]; exact ⟨rfl, hR⟩) (Nat.le_of_ble_eq_true rfl) (Nat.le_of_ble_eq_true rfl) dX2_work_67
  by_cases c_250 : r 12 k = 3
  · skip
    refine lv_tableIn (tgt := 68) hx hb dX2_work_4 (by rw [c_250]; decide) (by rw [c_250]; decide) (by rw [c_250]; rfl) (by decide) ?_
    refine lv_aload_n hx hb dX2_work_68 rfl (lv_at hl 0 rfl) ?_
    refine lv_aload_n hx hb dX2_work_69 rfl (lv_at hl 1 rfl) ?_
    refine lv_aload_n hx hb dX2_work_70 rfl (lv_at hl 2 rfl) ?_
    refine c_virt (own := RX2) (As := [.ref (ka k), .ref (ma i)]) (rest := []) hx hb hml hown hts hK hW (k_X2_open l hR hIV hnk hk hs hi (w_fig hIV hk hs hw (Or.inr (Or.inl c_250))) hC) ml_RX2_166 im_yX2_open se_yX2_open in_RX2 cd_yX2_open 2 (by decide +kernel) ⟨show 4 * n + 7 + 1 ≤ 4 * n + 8 from by omega, show 8 + (4 + 11) + (120 * n + 230) ≤ 120 * n + 260 from by omega⟩ hR.1 rfl rfl rfl hl.1 rfl (Nat.le_of_ble_eq_true rfl) dX2_work_71 ⟨Nat.le_of_ble_eq_true rfl, Nat.le_of_ble_eq_true rfl⟩ (fun v g2 H1 locs1 hp hW hKT => ?_)
    obtain ⟨rfl, hR⟩ := hp
    refine W.eq (g2 := F0 m 74 ls [.int ((openF (carryF n) r k i).2)]) rfl ?_
    exact r_int hx hb hr hlk hW (by have e1 : workF (carryF n) r k i = ((openF (carryF n) r k i).1, (openF (carryF n) r k i).2) := (by simp [workF, wt, c_247, c_248, c_249, c_250]); rw [e1]; exact ⟨rfl, hR⟩) (Nat.le_of_ble_eq_true rfl) (Nat.le_of_ble_eq_true rfl) dX2_work_74
  by_cases c_251 : r 12 k = 4
  · skip
    refine lv_tableIn (tgt := 75) hx hb dX2_work_4 (by rw [c_251]; decide) (by rw [c_251]; decide) (by rw [c_251]; rfl) (by decide) ?_
    refine lv_aload_n hx hb dX2_work_75 rfl (lv_at hl 0 rfl) ?_
    refine lv_aload_n hx hb dX2_work_76 rfl (lv_at hl 1 rfl) ?_
    refine lv_aload_n hx hb dX2_work_77 rfl (lv_at hl 2 rfl) ?_
    refine c_virt (own := RX2) (As := [.ref (ka k), .ref (ma i)]) (rest := []) hx hb hml hown hts hK hW (k_X2_spread l hR hIV hnk hk hs hi (w_fig hIV hk hs hw (Or.inr (Or.inr c_251))) hC) ml_RX2_169 im_yX2_spread se_yX2_spread in_RX2 cd_yX2_spread 2 (by decide +kernel) ⟨show 4 * n + 7 + 1 ≤ 4 * n + 8 from by omega, show 8 + (6 + 11) + (120 * n + 230) ≤ 120 * n + 260 from by omega⟩ hR.1 rfl rfl rfl hl.1 rfl (Nat.le_of_ble_eq_true rfl) dX2_work_78 ⟨Nat.le_of_ble_eq_true rfl, Nat.le_of_ble_eq_true rfl⟩ (fun v g2 H1 locs1 hp hW hKT => ?_)
    obtain ⟨rfl, hR⟩ := hp
    refine W.eq (g2 := F0 m 81 ls [.int ((spreadF (carryF n) i (ix (r 3 i)) 0 r).2)]) rfl ?_
    exact r_int hx hb hr hlk hW (by have e1 : workF (carryF n) r k i = ((spreadF (carryF n) i (ix (r 3 i)) 0 r).1, (spreadF (carryF n) i (ix (r 3 i)) 0 r).2) := (by simp [workF, wt, c_247, c_248, c_249, c_250, c_251]); rw [e1]; exact ⟨rfl, hR⟩) (Nat.le_of_ble_eq_true rfl) (Nat.le_of_ble_eq_true rfl) dX2_work_81
  refine lv_tableOut (tgt := 82) hx hb dX2_work_4 (by have z0 := lv_neT (a := 0) c_247 (by decide); have z1 := lv_neT (a := 1) c_248 (by decide); have z2 := lv_neT (a := 2) c_249 (by decide); have z3 := lv_neT (a := 3) c_250 (by decide); have z4 := lv_neT (a := 4) c_251 (by decide); omega) (by decide) ?_
  refine lv_aload_n hx hb dX2_work_82 rfl (lv_at hl 1 rfl) ?_
  refine lv_aload_n hx hb dX2_work_83 rfl (lv_at hl 2 rfl) ?_
  refine hm_get hx hb hts hown hK hW hR hi 0 (by decide) fl_RX2_135 (v := .int (nI i)) rfl dX2_work_84 ?_
  refine hk_put 14 hx hb hts hown hK hW hR hk hs 7 (by decide) fl_RX2_95 rfl rfl rfl (by decide) (by simp [s2_a]) dX2_work_87 (fun H1 locs1 g1 hW hR => ?_)
  refine lv_iconst (v := 0) hx hb dX2_work_90 (by decide) ?_
  exact r_int hx hb hr hlk hW (by have e1 : workF (carryF n) r k i = (s2 r 14 k (nI i), 0) := (by simp [workF, wt, c_247, c_248, c_249, c_250, c_251]); rw [e1]; exact ⟨rfl, hR⟩) (Nat.le_of_ble_eq_true rfl) (Nat.le_of_ble_eq_true rfl) dX2_work_91

set_option maxHeartbeats 4000000 in
set_option maxRecDepth 100000 in
theorem k_X2_meet (l : Launch) {E : gE} {x xa xk : Nat} {ma pa ka : Nat → Nat} {r : sg} {g : gm} (hR : HR E x xa xk ma pa ka false r g) (hIV : IV r) {n k : Nat} (hnk : n + k = 7) (hk : k < 8) (hs : r 5 k ≠ 0) {i : Nat} (hi : i < nm r) (hC : CarryC l E x xa xk ma pa ka n) : CM l yX2_meet cX2_meet 4 (some .int) ({ frames := 4 * n + 9, cells := 0, slots := 0, locals := 120 * n + 285 }) E [.ref (x), .ref (ka k), .ref (ma i)] g (fun vv g' => vv = some (.int (meetF (carryF n) r k i).2) ∧ HR E x xa xk ma pa ka false (meetF (carryF n) r k i).1 g') := by
  refine CM.of (by decide) (Nat.le_of_ble_eq_true rfl) ?_
  intro p e s m below meth c ls hM hK hW hl
  obtain ⟨hx, hb, hr, hml, hown, hts, hlk, hnm⟩ := hM
  have hown : s.vm.findClass RX2 = some m.cls := hown
  have hl : lv_has ls 4 [(0, .ref (x)), (1, .ref (ka k)), (2, .ref (ma i))] := hl
  refine lv_aload_n hx hb dX2_meet_0 rfl (lv_at hl 0 rfl) ?_
  refine h_get hx hb hts hown hK hW hR 5 (by decide) fl_RX2_108 (v := .int (r 17 2)) rfl dX2_meet_1 ?_
  refine lv_bipush (v := 16) hx hb dX2_meet_4 (by decide) ?_
  refine lv_icmp_lt (tgt := 11) hx hb dX2_meet_6 (by decide) (fun c_252 => ?_) (fun c_252 => ?_)
  · skip
    refine lv_aload_n hx hb dX2_meet_11 rfl (lv_at hl 0 rfl) ?_
    refine lv_dup hx hb dX2_meet_12 rfl ?_
    refine h_get hx hb hts hown hK hW hR 5 (by decide) fl_RX2_108 (v := .int (r 17 2)) rfl dX2_meet_13 ?_
    refine lv_iconst (v := 1) hx hb dX2_meet_16 (by decide) ?_
    refine lv_iadd hx hb dX2_meet_17 ?_
    refine h_tput 2 hx hb hts hown hK hW hR 5 (by decide) fl_RX2_108 rfl rfl (by decide) rfl dX2_meet_18 (fun H1 locs1 g1 hW hR => ?_)
    have hR : HR E x xa xk ma pa ka false (tinc r 2) g1 := hR
    have hIV1 : IV (tinc r 2) := (OK.in hIV (by omega) _).1
    refine lv_aload_n hx hb dX2_meet_21 rfl (lv_at hl 1 rfl) ?_
    refine lv_aload_n hx hb dX2_meet_22 rfl (lv_at hl 2 rfl) ?_
    refine c_virt (own := RX2) (As := [.ref (ma i)]) (rest := []) hx hb hml hown hts hK hW (k_X0_takes l hR hk hs hi) ml_RX2_143 im_yX0_takes se_yX0_takes in_RX0 cd_yX0_takes 1 (by decide +kernel) ⟨show 2 + 1 ≤ 4 * n + 9 from by omega, show 8 + (2 + 11) + (43) ≤ 120 * n + 285 from by omega⟩ (hR.2.2.2.2.1 _ hk hs) rfl rfl rfl hl.1 rfl (Nat.le_of_ble_eq_true rfl) dX2_meet_23 ⟨Nat.le_of_ble_eq_true rfl, Nat.le_of_ble_eq_true rfl⟩ (fun v g2 H1 locs1 hp hW hKT => ?_)
    obtain ⟨rfl, hg⟩ := hp
    rw [hg] at hW
    refine W.eq (g2 := F0 m 26 ls [.int (bI (fitB (tinc r 2) i ((tinc r 2) 10 k) ((tinc r 2) 11 k)))]) rfl ?_
    refine lv_if_eq (tgt := 38) hx hb dX2_meet_26 (by decide) (fun c_253 => ?_) (fun c_253 => ?_)
    · skip
      have c_253 := (bI_eq0 _).mp c_253
      refine lv_iconst (v := 1) hx hb dX2_meet_38 (by decide) ?_
      refine lv_istore_n (lv' := [(3, .int (1)), (0, .ref (x)), (1, .ref (ka k)), (2, .ref (ma i))]) hx hb dX2_meet_39 rfl hl (by decide) rfl (fun ls hl => ?_)
      refine lv_aload_n hx hb dX2_meet_40 rfl (lv_at hl 2 rfl) ?_
      refine lv_dup hx hb dX2_meet_41 rfl ?_
      refine hk_get hx hb hts hown hK hW hR hk hs 10 (by decide) fl_RX2_124 (v := .int ((tinc r 2) 15 k)) rfl dX2_meet_42 ?_
      refine lv_iconst (v := 1) hx hb dX2_meet_45 (by decide) ?_
      refine lv_iadd hx hb dX2_meet_46 ?_
      refine hk_put 15 hx hb hts hown hK hW hR hk hs 10 (by decide) fl_RX2_124 rfl rfl rfl (by decide) (by simp [s2_a]) dX2_meet_47 (fun H1 locs1 g1 hW hR => ?_)
      have hR : HR E x xa xk ma pa ka false (metF (tinc r 2) k) g1 := hR
      refine lv_iload_n hx hb dX2_meet_50 rfl (lv_at hl 0 rfl) ?_
      refine lv_if_eq (tgt := 59) hx hb dX2_meet_51 (by decide) (fun c_254 => ?_) (fun c_254 => ?_)
      · skip
        refine lv_iload_n hx hb dX2_meet_59 rfl (lv_at hl 0 rfl) ?_
        exact r_int hx hb hr hlk hW (by have e1 : meetF (carryF n) r k i = (metF (tinc r 2) k, 1) := (by simp [meetF, overF, jobF, c_252, c_253, c_254]); rw [e1]; exact ⟨rfl, hR⟩) (Nat.le_of_ble_eq_true rfl) (Nat.le_of_ble_eq_true rfl) dX2_meet_60
      · skip
        refine lv_aload_n hx hb dX2_meet_54 rfl (lv_at hl 1 rfl) ?_
        refine lv_aload_n hx hb dX2_meet_55 rfl (lv_at hl 2 rfl) ?_
        refine c_virt (own := RX2) (As := [.ref (ka k)]) (rest := []) hx hb hml hown hts hK hW (k_X2_noteFall l hR hk hs) ml_RX2_149 im_yX2_noteFall se_yX2_noteFall in_RX2 cd_yX2_noteFall 1 (by decide +kernel) ⟨show 0 + 1 ≤ 4 * n + 9 from by omega, show 8 + (2 + 11) + (0) ≤ 120 * n + 285 from by omega⟩ hR.1 rfl rfl rfl hl.1 rfl (Nat.le_of_ble_eq_true rfl) dX2_meet_56 ⟨Nat.le_of_ble_eq_true rfl, Nat.le_of_ble_eq_true rfl⟩ (fun v g2 H1 locs1 hp hW hKT => ?_)
        obtain ⟨rfl, hR⟩ := hp
        refine W.eq (g2 := F0 m 59 ls []) rfl ?_
        refine lv_iload_n hx hb dX2_meet_59 rfl (lv_at hl 0 rfl) ?_
        exact r_int hx hb hr hlk hW (by have e1 : meetF (carryF n) r k i = (fallF (metF (tinc r 2) k) k, 1) := (by simp [meetF, overF, jobF, c_252, c_253, c_254]); rw [e1]; exact ⟨rfl, hR⟩) (Nat.le_of_ble_eq_true rfl) (Nat.le_of_ble_eq_true rfl) dX2_meet_60
    · skip
      have c_253 := bI_ne0 c_253
      refine lv_aload_n hx hb dX2_meet_29 rfl (lv_at hl 0 rfl) ?_
      refine lv_aload_n hx hb dX2_meet_30 rfl (lv_at hl 1 rfl) ?_
      refine lv_aload_n hx hb dX2_meet_31 rfl (lv_at hl 2 rfl) ?_
      refine c_virt (own := RX2) (As := [.ref (ka k), .ref (ma i)]) (rest := []) hx hb hml hown hts hK hW (k_X2_work l hR hIV1 hnk hk hs hi c_253 hC) ml_RX2_146 im_yX2_work se_yX2_work in_RX2 cd_yX2_work 2 (by decide +kernel) ⟨show 4 * n + 8 + 1 ≤ 4 * n + 9 from by omega, show 8 + (3 + 11) + (120 * n + 260) ≤ 120 * n + 285 from by omega⟩ hR.1 rfl rfl rfl hl.1 rfl (Nat.le_of_ble_eq_true rfl) dX2_meet_32 ⟨Nat.le_of_ble_eq_true rfl, Nat.le_of_ble_eq_true rfl⟩ (fun v g2 H1 locs1 hp hW hKT => ?_)
      obtain ⟨rfl, hR⟩ := hp
      refine W.eq (g2 := F0 m 35 ls [.int ((workF (carryF n) (tinc r 2) k i).2)]) rfl ?_
      have hok : OK (tinc r 2) (workF (carryF n) (tinc r 2) k i).1 := work_ok (carry_ok n) hIV1 hk hs hi c_253
      have hs2 : (workF (carryF n) (tinc r 2) k i).1 5 k ≠ 0 := by rw [hok.2.1 5 (by omega)]; exact hs
      have hi2 : i < nm (workF (carryF n) (tinc r 2) k i).1 := by rw [hok.cnt]; exact hi
      refine lv_goto (tgt := 39) hx hb dX2_meet_35 (by decide) ?_
      refine lv_istore_n (lv' := [(3, .int ((workF (carryF n) (tinc r 2) k i).2)), (0, .ref (x)), (1, .ref (ka k)), (2, .ref (ma i))]) hx hb dX2_meet_39 rfl hl (by decide) rfl (fun ls hl => ?_)
      refine lv_aload_n hx hb dX2_meet_40 rfl (lv_at hl 2 rfl) ?_
      refine lv_dup hx hb dX2_meet_41 rfl ?_
      refine hk_get hx hb hts hown hK hW hR hk hs2 10 (by decide) fl_RX2_124 (v := .int (((workF (carryF n) (tinc r 2) k i).1) 15 k)) rfl dX2_meet_42 ?_
      refine lv_iconst (v := 1) hx hb dX2_meet_45 (by decide) ?_
      refine lv_iadd hx hb dX2_meet_46 ?_
      refine hk_put 15 hx hb hts hown hK hW hR hk hs2 10 (by decide) fl_RX2_124 rfl rfl rfl (by decide) (by simp [s2_a]) dX2_meet_47 (fun H1 locs1 g1 hW hR => ?_)
      have hR : HR E x xa xk ma pa ka false (metF ((workF (carryF n) (tinc r 2) k i).1) k) g1 := hR
      refine lv_iload_n hx hb dX2_meet_50 rfl (lv_at hl 0 rfl) ?_
      refine lv_if_eq (tgt := 59) hx hb dX2_meet_51 (by decide) (fun c_255 => ?_) (fun c_255 => ?_)
      · skip
        refine lv_iload_n hx hb dX2_meet_59 rfl (lv_at hl 0 rfl) ?_
        exact r_int hx hb hr hlk hW (by have e1 : meetF (carryF n) r k i = (metF ((workF (carryF n) (tinc r 2) k i).1) k, (workF (carryF n) (tinc r 2) k i).2) := (by simp [meetF, overF, jobF, c_252, c_253, c_255]); rw [e1]; exact ⟨rfl, hR⟩) (Nat.le_of_ble_eq_true rfl) (Nat.le_of_ble_eq_true rfl) dX2_meet_60
      · skip
        refine lv_aload_n hx hb dX2_meet_54 rfl (lv_at hl 1 rfl) ?_
        refine lv_aload_n hx hb dX2_meet_55 rfl (lv_at hl 2 rfl) ?_
        refine c_virt (own := RX2) (As := [.ref (ka k)]) (rest := []) hx hb hml hown hts hK hW (k_X2_noteFall l hR hk hs2) ml_RX2_149 im_yX2_noteFall se_yX2_noteFall in_RX2 cd_yX2_noteFall 1 (by decide +kernel) ⟨show 0 + 1 ≤ 4 * n + 9 from by omega, show 8 + (2 + 11) + (0) ≤ 120 * n + 285 from by omega⟩ hR.1 rfl rfl rfl hl.1 rfl (Nat.le_of_ble_eq_true rfl) dX2_meet_56 ⟨Nat.le_of_ble_eq_true rfl, Nat.le_of_ble_eq_true rfl⟩ (fun v g2 H1 locs1 hp hW hKT => ?_)
        obtain ⟨rfl, hR⟩ := hp
        refine W.eq (g2 := F0 m 59 ls []) rfl ?_
        refine lv_iload_n hx hb dX2_meet_59 rfl (lv_at hl 0 rfl) ?_
        exact r_int hx hb hr hlk hW (by have e1 : meetF (carryF n) r k i = (fallF (metF ((workF (carryF n) (tinc r 2) k i).1) k) k, (workF (carryF n) (tinc r 2) k i).2) := (by simp [meetF, overF, jobF, c_252, c_253, c_255]); rw [e1]; exact ⟨rfl, hR⟩) (Nat.le_of_ble_eq_true rfl) (Nat.le_of_ble_eq_true rfl) dX2_meet_60
  · skip
    refine lv_iconst (v := 5) hx hb dX2_meet_9 (by decide) ?_
    exact r_int hx hb hr hlk hW (by have e1 : meetF (carryF n) r k i = (r, 5) := (by simp [meetF, overF, jobF, c_252]); rw [e1]; exact ⟨rfl, hR⟩) (Nat.le_of_ble_eq_true rfl) (Nat.le_of_ble_eq_true rfl) dX2_meet_10
end
section
theorem k_X2_counterAtN (l : Launch) {E : gE} {x xa xk : Nat} {ma pa ka : Nat → Nat} {z : Bool} {r : sg} {g : gm} (hR : HR E x xa xk ma pa ka z r g) {k : Nat} (hk : k < 8) : CM l yX2_counterAt cX2_counterAt 2 (some (.object "PostHall$Counter")) ({ frames := 0, cells := 0, slots := 0, locals := 0 }) E [.ref x, .int (nI k)] g (fun vv g' => (((r 5 k != 0) = false ∧ vv = some .null) ∨ ((r 5 k != 0) = true ∧ vv = some (.ref (ka k)))) ∧ g' = g) := by
  have h := k_X2_counterAt l hR (nI k)
  have e2 : ix (nI k) = k := nI_clamp (by omega)
  rw [isCb_N hk, e2] at h
  exact h

set_option maxHeartbeats 4000000 in
set_option maxRecDepth 100000 in
theorem k_X2_carry_step (l : Launch) {E : gE} {x xa xk : Nat} {ma pa ka : Nat → Nat} {n : Nat} (hn8 : n ≤ 8) (hC : ∀ q, q < n → CarryC l E x xa xk ma pa ka q) : CarryC l E x xa xk ma pa ka n := by
  intro r0 g i cc hcc hR hIV hi
  refine CM.of (by decide) (Nat.le_of_ble_eq_true rfl) ?_
  intro p e s m below meth c ls hM hK hW hl
  obtain ⟨hx, hb, hr, hml, hown, hts, hlk, hnm⟩ := hM
  have hown : s.vm.findClass RX2 = some m.cls := hown
  have hl : lv_has ls 6 [(0, .ref (x)), (1, .ref (ma i)), (2, .int (cc))] := hl
  have loop : ∀ (q : Nat) (r : sg) (g1 : gm), q ≤ n → IV r → i < nm r → carryF q r i = carryF n r0 i → HR E x xa xk ma pa ka false r g1 → ∀ (H : Heap) (locs : List Loc) (ls : Array Slot), PW E (fr g s.heap.size) s.heap H locs g1 → lv_has ls 6 [(3, .int (nI (8 - q))), (0, .ref (x)), (1, .ref (ma i)), (2, .int (cc))] → W p l e ({ frames := 4 * n + 6, cells := 0, slots := 0, locals := 120 * n + 200 }) s m ([.ref (x), .ref (ma i), .int (cc)] : List Value).toArray below meth c H locs 0 0 (MQ below (QC E g s.heap.size (fun vv g' => vv = some (.int (carryF n r0 i).2) ∧ HR E x xa xk ma pa ka false (carryF n r0 i).1 g')) ([.ref (x), .ref (ma i), .int (cc)] : List Value).toArray s (Room.cells ({ frames := 4 * n + 6, cells := 0, slots := 0, locals := 120 * n + 200 })) (Room.slots ({ frames := 4 * n + 6, cells := 0, slots := 0, locals := 120 * n + 200 })) (fr g s.heap.size)) (F0 m 2 ls []) := by
    intro q
    induction q with
    | zero =>
      intro r g1 hq hIV hi hF hR H locs ls hW hl
      refine lv_iload_n hx hb dX2_carry_2 rfl (lv_at hl 0 rfl) ?_
      refine lv_bipush (v := 8) hx hb dX2_carry_3 (by decide) ?_
      refine lv_icmp_ge (tgt := 84) hx hb dX2_carry_5 (by decide) (fun c_256 => ?_) (fun c_256 => ?_)
      · skip
        have c_256 := Int32.not_lt.mpr c_256
        refine lv_aload_n hx hb dX2_carry_84 rfl (lv_at hl 1 rfl) ?_
        refine lv_dup hx hb dX2_carry_85 rfl ?_
        refine h_get hx hb hts hown hK hW hR 7 (by decide) fl_RX2_114 (v := .int (r 17 4)) rfl dX2_carry_86 ?_
        refine lv_iconst (v := 1) hx hb dX2_carry_89 (by decide) ?_
        refine lv_iadd hx hb dX2_carry_90 ?_
        refine h_tput 4 hx hb hts hown hK hW hR 7 (by decide) fl_RX2_114 rfl rfl (by decide) rfl dX2_carry_91 (fun H1 locs1 g1 hW hR => ?_)
        have hR : HR E x xa xk ma pa ka false (tinc r 4) g1 := hR
        refine lv_bipush (v := -4) hx hb dX2_carry_94 (by decide) ?_
        exact r_int hx hb hr hlk hW (by rw [← hF]; exact ⟨rfl, hR⟩) (Nat.le_of_ble_eq_true rfl) (Nat.le_of_ble_eq_true rfl) dX2_carry_96
      · skip
        have c_256 := Int32.not_le.mp c_256
        exact absurd c_256 (by rw [show nI (8 - 0) = (8 : Int32) from rfl]; decide)
    | succ q ih =>
      intro r g1 hq hIV hi hF hR H locs ls hW hl
      obtain ⟨k, hkq⟩ : ∃ k, k = 7 - q := ⟨_, rfl⟩
      rw [show 8 - (q + 1) = k from by omega] at hl
      have eC : carryF (q + 1) r i = (if asksB r k i then (if (meetF (carryF q) r k i).2 = 0 then (tinc (meetF (carryF q) r k i).1 3, nI k) else if (meetF (carryF q) r k i).2 = 5 ∨ (meetF (carryF q) r k i).1 7 k = 0 then ((meetF (carryF q) r k i).1, -10 - (meetF (carryF q) r k i).2) else carryF q (meetF (carryF q) r k i).1 i) else carryF q r i) := by rw [hkq]; rfl
      refine lv_iload_n hx hb dX2_carry_2 rfl (lv_at hl 0 rfl) ?_
      refine lv_bipush (v := 8) hx hb dX2_carry_3 (by decide) ?_
      refine lv_icmp_ge (tgt := 84) hx hb dX2_carry_5 (by decide) (fun c_257 => ?_) (fun c_257 => ?_)
      · skip
        have c_257 := Int32.not_lt.mpr c_257
        exact absurd ((nI_ltI (a := k) (b := 8) (by omega) (by decide)).mpr (by omega)) c_257
      · skip
        have c_257 := Int32.not_le.mp c_257
        refine lv_aload_n hx hb dX2_carry_8 rfl (lv_at hl 1 rfl) ?_
        refine lv_iload_n hx hb dX2_carry_9 rfl (lv_at hl 0 rfl) ?_
        refine c_virt (own := RX2) (As := [.int (nI k)]) (rest := []) hx hb hml hown hts hK hW (k_X2_counterAtN l hR (k := k) (by omega)) ml_RX2_82 im_yX2_counterAt se_yX2_counterAt in_RX2 cd_yX2_counterAt 1 (by decide +kernel) ⟨show 0 + 1 ≤ 4 * n + 6 from by omega, show 8 + (2 + 11) + (0) ≤ 120 * n + 200 from by omega⟩ hR.1 rfl rfl rfl hl.1 rfl (Nat.le_of_ble_eq_true rfl) dX2_carry_10 ⟨Nat.le_of_ble_eq_true rfl, Nat.le_of_ble_eq_true rfl⟩ (fun v g2 H1 locs1 hp hW hKT => ?_)
        obtain ⟨hp, hg⟩ := hp
        rw [hg] at hW
        rcases hp with ⟨em_258, rfl⟩ | ⟨em_259, rfl⟩
        · skip
          refine W.eq (g2 := F0 m 13 ls [.null]) rfl ?_
          refine lv_astoreN (lv' := [(4, .null), (3, .int (nI k)), (0, .ref (x)), (1, .ref (ma i)), (2, .int (cc))]) hx hb dX2_carry_13 hl (by decide) rfl (fun ls hl => ?_)
          refine lv_aloadN hx hb dX2_carry_15 (lv_at hl 0 rfl) ?_
          refine lv_ifnullN (tgt := 78) hx hb dX2_carry_17 (by decide) ?_
          refine lv_iinc (v := (nI k) + (1)) (lv' := [(3, .int ((nI k) + (1))), (4, .null), (0, .ref (x)), (1, .ref (ma i)), (2, .int (cc))]) hx hb dX2_carry_78 hl (k := 1) rfl rfl (by decide) rfl (fun ls hl => ?_)
          refine lv_goto (tgt := 2) hx hb dX2_carry_81 (by decide) ?_
          have e5 : carryF (q + 1) r i = carryF q (r) i := by
            rw [eC]
            simp [asksB, c_257, em_258]
          exact ih _ _ (by omega) hIV hi (by rw [← e5]; exact hF) hR _ _ _ hW (by rw [show nI (8 - q) = nI k + 1 from by rw [nI_1]; congr 1; omega]; exact lv_sub hl [0, 2, 3, 4] rfl)
        · skip
          have hk8 : k < 8 := by omega
          have hs : r 5 k ≠ 0 := by simpa using em_259
          refine W.eq (g2 := F0 m 13 ls [.ref (ka k)]) rfl ?_
          refine lv_astore (lv' := [(4, .ref (ka k)), (3, .int (nI k)), (0, .ref (x)), (1, .ref (ma i)), (2, .int (cc))]) hx hb dX2_carry_13 hl (by decide) rfl (fun ls hl => ?_)
          refine lv_aload hx hb dX2_carry_15 (lv_at hl 0 rfl) ?_
          refine lv_ifnull hx hb dX2_carry_17 ?_
          refine lv_aload hx hb dX2_carry_20 (lv_at hl 0 rfl) ?_
          refine lv_aload_n hx hb dX2_carry_22 rfl (lv_at hl 3 rfl) ?_
          refine c_virt (own := RX2) (As := [.ref (ma i)]) (rest := []) hx hb hml hown hts hK hW (k_X0_asksFor l hR hk8 hs hi) ml_RX2_136 im_yX0_asksFor se_yX0_asksFor in_RX0 cd_yX0_asksFor 1 (by decide +kernel) ⟨show 2 + 1 ≤ 4 * n + 6 from by omega, show 8 + (2 + 11) + (43) ≤ 120 * n + 200 from by omega⟩ (hR.2.2.2.2.1 _ hk8 hs) rfl rfl rfl hl.1 rfl (Nat.le_of_ble_eq_true rfl) dX2_carry_23 ⟨Nat.le_of_ble_eq_true rfl, Nat.le_of_ble_eq_true rfl⟩ (fun v g2 H1 locs1 hp hW hKT => ?_)
          obtain ⟨rfl, hg⟩ := hp
          rw [hg] at hW
          refine W.eq (g2 := F0 m 26 ls [.int (bI (r 6 k == 0 && fitB r i (r 8 k) (r 9 k)))]) rfl ?_
          refine lv_if_ne (tgt := 32) hx hb dX2_carry_26 (by decide) (fun c_260 => ?_) (fun c_260 => ?_)
          · skip
            have c_260 := bI_ne0 c_260
            refine lv_aload_n hx hb dX2_carry_32 rfl (lv_at hl 2 rfl) ?_
            refine lv_aload hx hb dX2_carry_33 (lv_at hl 0 rfl) ?_
            refine lv_aload_n hx hb dX2_carry_35 rfl (lv_at hl 3 rfl) ?_
            refine c_virt (own := RX2) (As := [.ref (ka k), .ref (ma i)]) (rest := []) hx hb hml hown hts hK hW (k_X2_meet l hR hIV (n := q) (k := k) (by omega) hk8 hs hi (hC q (by omega))) ml_RX2_139 im_yX2_meet se_yX2_meet in_RX2 cd_yX2_meet 2 (by decide +kernel) ⟨show 4 * q + 9 + 1 ≤ 4 * n + 6 from by omega, show 8 + (4 + 11) + (120 * q + 285) ≤ 120 * n + 200 from by omega⟩ hR.1 rfl rfl rfl hl.1 rfl (Nat.le_of_ble_eq_true rfl) dX2_carry_36 ⟨Nat.le_of_ble_eq_true rfl, Nat.le_of_ble_eq_true rfl⟩ (fun v g2 H1 locs1 hp hW hKT => ?_)
            obtain ⟨rfl, hR⟩ := hp
            refine W.eq (g2 := F0 m 39 ls [.int ((meetF (carryF q) r k i).2)]) rfl ?_
            have hok : OK r (meetF (carryF q) r k i).1 := meet_ok (carry_ok q) hIV hk8 hs hi
            have hs2 : (meetF (carryF q) r k i).1 5 k ≠ 0 := by rw [hok.2.1 5 (by omega)]; exact hs
            have hi2 : i < nm (meetF (carryF q) r k i).1 := by rw [hok.cnt]; exact hi
            refine lv_istore (lv' := [(5, .int ((meetF (carryF q) r k i).2)), (4, .ref (ka k)), (3, .int (nI k)), (0, .ref (x)), (1, .ref (ma i)), (2, .int (cc))]) hx hb dX2_carry_39 hl (by decide) rfl (fun ls hl => ?_)
            refine lv_iload hx hb dX2_carry_41 (lv_at hl 0 rfl) ?_
            refine lv_if_ne (tgt := 58) hx hb dX2_carry_43 (by decide) (fun c_261 => ?_) (fun c_261 => ?_)
            · skip
              refine lv_iload hx hb dX2_carry_58 (lv_at hl 0 rfl) ?_
              refine lv_iconst (v := 5) hx hb dX2_carry_60 (by decide) ?_
              refine lv_icmp_eq (tgt := 72) hx hb dX2_carry_61 (by decide) (fun c_262 => ?_) (fun c_262 => ?_)
              · skip
                refine lv_bipush (v := -10) hx hb dX2_carry_72 (by decide) ?_
                refine lv_iload hx hb dX2_carry_74 (lv_at hl 0 rfl) ?_
                refine lv_isub hx hb dX2_carry_76 ?_
                exact r_int hx hb hr hlk hW (by have e1 : carryF (q + 1) r i = ((meetF (carryF q) r k i).1, (-10) - ((meetF (carryF q) r k i).2)) := (by rw [eC]; simp [asksB, c_257, em_259, c_260, c_261, c_262]); rw [← hF, e1]; exact ⟨rfl, hR⟩) (Nat.le_of_ble_eq_true rfl) (Nat.le_of_ble_eq_true rfl) dX2_carry_77
              · skip
                refine lv_aload hx hb dX2_carry_64 (lv_at hl 1 rfl) ?_
                refine hk_get hx hb hts hown hK hW hR hk8 hs2 8 (by decide) fl_RX2_98 (v := .int (((meetF (carryF q) r k i).1) 7 k)) rfl dX2_carry_66 ?_
                refine lv_if_ne (tgt := 78) hx hb dX2_carry_69 (by decide) (fun c_263 => ?_) (fun c_263 => ?_)
                · skip
                  refine lv_iinc (v := (nI k) + (1)) (lv' := [(3, .int ((nI k) + (1))), (5, .int ((meetF (carryF q) r k i).2)), (4, .ref (ka k)), (0, .ref (x)), (1, .ref (ma i)), (2, .int (cc))]) hx hb dX2_carry_78 hl (k := 2) rfl rfl (by decide) rfl (fun ls hl => ?_)
                  refine lv_goto (tgt := 2) hx hb dX2_carry_81 (by decide) ?_
                  have e5 : carryF (q + 1) r i = carryF q ((meetF (carryF q) r k i).1) i := by
                    rw [eC]
                    simp [asksB, c_257, em_259, c_260, c_261, c_262, c_263]
                  exact ih _ _ (by omega) hok.1 hi2 (by rw [← e5]; exact hF) hR _ _ _ hW (by rw [show nI (8 - q) = nI k + 1 from by rw [nI_1]; congr 1; omega]; exact lv_sub hl [0, 3, 4, 5] rfl)
                · skip
                  refine lv_bipush (v := -10) hx hb dX2_carry_72 (by decide) ?_
                  refine lv_iload hx hb dX2_carry_74 (lv_at hl 0 rfl) ?_
                  refine lv_isub hx hb dX2_carry_76 ?_
                  exact r_int hx hb hr hlk hW (by have e1 : carryF (q + 1) r i = ((meetF (carryF q) r k i).1, (-10) - ((meetF (carryF q) r k i).2)) := (by rw [eC]; simp [asksB, c_257, em_259, c_260, c_261, c_262, c_263]); rw [← hF, e1]; exact ⟨rfl, hR⟩) (Nat.le_of_ble_eq_true rfl) (Nat.le_of_ble_eq_true rfl) dX2_carry_77
            · skip
              refine lv_aload_n hx hb dX2_carry_46 rfl (lv_at hl 3 rfl) ?_
              refine lv_dup hx hb dX2_carry_47 rfl ?_
              refine h_get hx hb hts hown hK hW hR 6 (by decide) fl_RX2_111 (v := .int (((meetF (carryF q) r k i).1) 17 3)) rfl dX2_carry_48 ?_
              refine lv_iconst (v := 1) hx hb dX2_carry_51 (by decide) ?_
              refine lv_iadd hx hb dX2_carry_52 ?_
              refine h_tput 3 hx hb hts hown hK hW hR 6 (by decide) fl_RX2_111 rfl rfl (by decide) rfl dX2_carry_53 (fun H1 locs1 g1 hW hR => ?_)
              have hR : HR E x xa xk ma pa ka false (tinc ((meetF (carryF q) r k i).1) 3) g1 := hR
              refine lv_iload_n hx hb dX2_carry_56 rfl (lv_at hl 2 rfl) ?_
              exact r_int hx hb hr hlk hW (by have e1 : carryF (q + 1) r i = (tinc ((meetF (carryF q) r k i).1) 3, nI k) := (by rw [eC]; simp [asksB, c_257, em_259, c_260, c_261]); rw [← hF, e1]; exact ⟨rfl, hR⟩) (Nat.le_of_ble_eq_true rfl) (Nat.le_of_ble_eq_true rfl) dX2_carry_57
          · skip
            have c_260 := (bI_eq0 _).mp c_260
            refine lv_goto (tgt := 78) hx hb dX2_carry_29 (by decide) ?_
            refine lv_iinc (v := (nI k) + (1)) (lv' := [(3, .int ((nI k) + (1))), (4, .ref (ka k)), (0, .ref (x)), (1, .ref (ma i)), (2, .int (cc))]) hx hb dX2_carry_78 hl (k := 1) rfl rfl (by decide) rfl (fun ls hl => ?_)
            refine lv_goto (tgt := 2) hx hb dX2_carry_81 (by decide) ?_
            have e5 : carryF (q + 1) r i = carryF q (r) i := by
              rw [eC]
              simp [asksB, c_257, em_259, c_260]
            exact ih _ _ (by omega) hIV hi (by rw [← e5]; exact hF) hR _ _ _ hW (by rw [show nI (8 - q) = nI k + 1 from by rw [nI_1]; congr 1; omega]; exact lv_sub hl [0, 2, 3, 4] rfl)
  refine lv_iload_n hx hb dX2_carry_0 rfl (lv_at hl 2 rfl) ?_
  refine lv_istore_n (lv' := [(3, .int (cc)), (0, .ref (x)), (1, .ref (ma i)), (2, .int (cc))]) hx hb dX2_carry_1 rfl hl (by decide) rfl (fun ls hl => ?_)
  exact loop n r0 g (Nat.le_refl _) hIV hi rfl hR _ _ _ hW (by rw [← hcc]; exact lv_sub hl [0, 1, 2, 3] rfl)

theorem k_X2_carry (l : Launch) {E : gE} {x xa xk : Nat} {ma pa ka : Nat → Nat} : ∀ n, n ≤ 8 → CarryC l E x xa xk ma pa ka n := by
  intro n
  induction n using Nat.strongRecOn with
  | _ n ih => exact fun hn => k_X2_carry_step l hn (fun q hq => ih q hq (by omega))
end
section
def sendR (r : sg) : sg := s2 (s2 (s2 (s2 (s2 (s2 r 17 1 (r 17 1 + 1)) 17 2 0) 17 3 0) 17 4 0) 17 5 0) 17 6 (-1)
def sendB (r : sg) (m k : Int32) : Bool := isMb r m && (!decide (k < 0) && decide (k < 8))
def Fsend (r : sg) (m k : Int32) : Int32 × sg := if sendB r m k then ((carryF (8 - ix k) (sendR r) (ix m)).2, (carryF (8 - ix k) (sendR r) (ix m)).1) else (-2, r)
theorem nm0 : nm (fun _ _ => 0) = 0 := rfl
theorem sendR_f {r : sg} {f : Nat} (h : f ≠ 17) : sendR r f = r f := by simp [sendR, s2, h]
theorem IV.same {r r' : sg} (h : IV r) (h0 : ∀ f, f = 0 ∨ f = 1 ∨ f = 3 ∨ f = 4 ∨ f = 5 ∨ f = 6 ∨ (7 ≤ f ∧ f ≤ 12) ∨ f = 14 → r' f = r f) (h1 : r' 17 0 = r 17 0) : IV r' := by
  obtain ⟨a1, a2, a3, a4⟩ := h
  have en : nm r' = nm r := by simp only [nm, h1]
  refine ⟨by rw [h1]; exact a1, by rw [en]; exact a2, fun i hi => ?_, fun k hk => ?_⟩
  · have := a3 i (en ▸ hi)
    simp only [IVm, h0 0 (by omega), h0 1 (by omega), h0 3 (by omega), h0 4 (by omega), isMb_c h1]
    exact this
  · have := a4 k hk
    simp only [IVk, h0 5 (by omega), h0 6 (by omega), h0 7 (by omega), h0 10 (by omega), h0 11 (by omega), h0 12 (by omega), h0 14 (by omega), isMb_c h1]
    exact this
theorem IV_send {r : sg} (h : IV r) : IV (sendR r) := h.same (fun f hf => sendR_f (by omega)) (by simp [sendR, s2_a])

set_option maxHeartbeats 4000000 in
set_option maxRecDepth 100000 in
theorem k_X2_send (l : Launch) {E : gE} {x xa xk : Nat} {ma pa ka : Nat → Nat} {z : Bool} {r : sg} {g : gm} (hR : HR E x xa xk ma pa ka z r g) (hIV : IV r) (a b : Int32) : CM l yX2_send cX2_send 4 (some .int) ({ frames := 50, cells := 0, slots := 0, locals := 1300 }) E [.ref (x), .int (a), .int (b)] g (fun vv g' => vv = some (.int (Fsend r a b).1) ∧ HR E x xa xk ma pa ka (if sendB r a b then false else z) (Fsend r a b).2 g') := by
  refine CM.of (by decide) (Nat.le_of_ble_eq_true rfl) ?_
  intro p e s m below meth c ls hM hK hW hl
  obtain ⟨hx, hb, hr, hml, hown, hts, hlk, hnm⟩ := hM
  have hown : s.vm.findClass RX2 = some m.cls := hown
  have hl : lv_has ls 4 [(0, .ref (x)), (1, .int (a)), (2, .int (b))] := hl
  refine lv_aload_n hx hb dX2_send_0 rfl (lv_at hl 0 rfl) ?_
  refine lv_iload_n hx hb dX2_send_1 rfl (lv_at hl 1 rfl) ?_
  refine c_virt (own := RX2) (As := [.int (a)]) (rest := []) hx hb hml hown hts hK hW (k_X2_messageAt l hR (a)) ml_RX2_33 im_yX2_messageAt se_yX2_messageAt in_RX2 cd_yX2_messageAt 1 (by decide +kernel) ⟨Nat.le_of_ble_eq_true rfl, Nat.le_of_ble_eq_true rfl⟩ hR.1 rfl rfl rfl hl.1 rfl (Nat.le_of_ble_eq_true rfl) dX2_send_2 ⟨Nat.le_of_ble_eq_true rfl, Nat.le_of_ble_eq_true rfl⟩ (fun v g2 H1 locs1 hp hW hKT => ?_)
  obtain ⟨hp, hg⟩ := hp
  rw [hg] at hW
  rcases hp with ⟨em_264, rfl⟩ | ⟨em_265, rfl⟩
  · skip
    refine W.eq (g2 := F0 m 5 ls [.null]) rfl ?_
    refine lv_astore_nN (lv' := [(3, .null), (0, .ref (x)), (1, .int (a)), (2, .int (b))]) hx hb dX2_send_5 rfl hl (by decide) rfl (fun ls hl => ?_)
    refine lv_aload_nN hx hb dX2_send_6 rfl (lv_at hl 0 rfl) ?_
    refine lv_ifnullN (tgt := 20) hx hb dX2_send_7 (by decide) ?_
    refine lv_bipush (v := -2) hx hb dX2_send_20 (by decide) ?_
    exact r_int hx hb hr hlk hW (by have e0 : sendB r a b = false := (by simp [sendB, em_264]); rw [e0]; have e1 : Fsend r a b = (-2, r) := (by simp [Fsend, e0]); rw [e1]; exact ⟨rfl, hR⟩) (Nat.le_of_ble_eq_true rfl) (Nat.le_of_ble_eq_true rfl) dX2_send_22
  · skip
    have hi_266 := isMb_lt em_265
    have nhi_266 := isMb_ne em_265
    refine W.eq (g2 := F0 m 5 ls [.ref (ma (ix (a)))]) rfl ?_
    refine lv_astore_n (lv' := [(3, .ref (ma (ix (a)))), (0, .ref (x)), (1, .int (a)), (2, .int (b))]) hx hb dX2_send_5 rfl hl (by decide) rfl (fun ls hl => ?_)
    refine lv_aload_n hx hb dX2_send_6 rfl (lv_at hl 0 rfl) ?_
    refine lv_ifnull hx hb dX2_send_7 ?_
    refine lv_iload_n hx hb dX2_send_10 rfl (lv_at hl 3 rfl) ?_
    refine lv_if_lt (tgt := 20) hx hb dX2_send_11 (by decide) (fun c_267 => ?_) (fun c_267 => ?_)
    · skip
      refine lv_bipush (v := -2) hx hb dX2_send_20 (by decide) ?_
      exact r_int hx hb hr hlk hW (by have e0 : sendB r a b = false := (by simp [sendB, em_265, nhi_266, c_267]); rw [e0]; have e1 : Fsend r a b = (-2, r) := (by simp [Fsend, e0]); rw [e1]; exact ⟨rfl, hR⟩) (Nat.le_of_ble_eq_true rfl) (Nat.le_of_ble_eq_true rfl) dX2_send_22
    · skip
      refine lv_iload_n hx hb dX2_send_14 rfl (lv_at hl 3 rfl) ?_
      refine lv_bipush (v := 8) hx hb dX2_send_15 (by decide) ?_
      refine lv_icmp_lt (tgt := 23) hx hb dX2_send_17 (by decide) (fun c_268 => ?_) (fun c_268 => ?_)
      · skip
        refine lv_aload_n hx hb dX2_send_23 rfl (lv_at hl 1 rfl) ?_
        refine lv_dup hx hb dX2_send_24 rfl ?_
        refine h_get hx hb hts hown hK hW hR 4 (by decide) fl_RX2_105 (v := .int (r 17 1)) rfl dX2_send_25 ?_
        refine lv_iconst (v := 1) hx hb dX2_send_28 (by decide) ?_
        refine lv_iadd hx hb dX2_send_29 ?_
        refine g_put (ci := 2) hx hb hts inlX2 rfl tyX2 tyX2_ok nmX2 hown hK hW hR.1 4 (by decide) fl_RX2_105 rfl rfl rfl (show 4 < 10 by decide) dX2_send_30 (fun H1 locs1 hW => ?_)
        have hW : PW E (fr g s.heap.size) s.heap H1 locs1 (gu g x (.inr (2, [.ref (xa), .ref (xk), .int (r 17 0), .int (nsetN r 8), .int ((r 17 1) + (1)), .int (tal z r 2), .int (tal z r 3), .int (tal z r 4), .int (tal z r 5), .int (tal z r 6)]))) := hW
        refine lv_aload_n hx hb dX2_send_33 rfl (lv_at hl 1 rfl) ?_
        refine lv_iconst (v := 0) hx hb dX2_send_34 (by decide) ?_
        refine g_put (ci := 2) hx hb hts inlX2 rfl tyX2 tyX2_ok nmX2 hown hK hW (gu_s _ _ _) 5 (by decide) fl_RX2_108 rfl rfl rfl (show 5 < 10 by decide) dX2_send_35 (fun H1 locs1 hW => ?_)
        rw [gu_gu] at hW
        have hW : PW E (fr g s.heap.size) s.heap H1 locs1 (gu g x (.inr (2, [.ref (xa), .ref (xk), .int (r 17 0), .int (nsetN r 8), .int ((r 17 1) + (1)), .int (0), .int (tal z r 3), .int (tal z r 4), .int (tal z r 5), .int (tal z r 6)]))) := hW
        refine lv_aload_n hx hb dX2_send_38 rfl (lv_at hl 1 rfl) ?_
        refine lv_iconst (v := 0) hx hb dX2_send_39 (by decide) ?_
        refine g_put (ci := 2) hx hb hts inlX2 rfl tyX2 tyX2_ok nmX2 hown hK hW (gu_s _ _ _) 6 (by decide) fl_RX2_111 rfl rfl rfl (show 6 < 10 by decide) dX2_send_40 (fun H1 locs1 hW => ?_)
        rw [gu_gu] at hW
        have hW : PW E (fr g s.heap.size) s.heap H1 locs1 (gu g x (.inr (2, [.ref (xa), .ref (xk), .int (r 17 0), .int (nsetN r 8), .int ((r 17 1) + (1)), .int (0), .int (0), .int (tal z r 4), .int (tal z r 5), .int (tal z r 6)]))) := hW
        refine lv_aload_n hx hb dX2_send_43 rfl (lv_at hl 1 rfl) ?_
        refine lv_iconst (v := 0) hx hb dX2_send_44 (by decide) ?_
        refine g_put (ci := 2) hx hb hts inlX2 rfl tyX2 tyX2_ok nmX2 hown hK hW (gu_s _ _ _) 7 (by decide) fl_RX2_114 rfl rfl rfl (show 7 < 10 by decide) dX2_send_45 (fun H1 locs1 hW => ?_)
        rw [gu_gu] at hW
        have hW : PW E (fr g s.heap.size) s.heap H1 locs1 (gu g x (.inr (2, [.ref (xa), .ref (xk), .int (r 17 0), .int (nsetN r 8), .int ((r 17 1) + (1)), .int (0), .int (0), .int (0), .int (tal z r 5), .int (tal z r 6)]))) := hW
        refine lv_aload_n hx hb dX2_send_48 rfl (lv_at hl 1 rfl) ?_
        refine lv_iconst (v := 0) hx hb dX2_send_49 (by decide) ?_
        refine g_put (ci := 2) hx hb hts inlX2 rfl tyX2 tyX2_ok nmX2 hown hK hW (gu_s _ _ _) 8 (by decide) fl_RX2_117 rfl rfl rfl (show 8 < 10 by decide) dX2_send_50 (fun H1 locs1 hW => ?_)
        rw [gu_gu] at hW
        have hW : PW E (fr g s.heap.size) s.heap H1 locs1 (gu g x (.inr (2, [.ref (xa), .ref (xk), .int (r 17 0), .int (nsetN r 8), .int ((r 17 1) + (1)), .int (0), .int (0), .int (0), .int (0), .int (tal z r 6)]))) := hW
        refine lv_aload_n hx hb dX2_send_53 rfl (lv_at hl 1 rfl) ?_
        refine lv_iconst (v := -1) hx hb dX2_send_54 (by decide) ?_
        refine g_put (ci := 2) hx hb hts inlX2 rfl tyX2 tyX2_ok nmX2 hown hK hW (gu_s _ _ _) 9 (by decide) fl_RX2_21 rfl rfl rfl (show 9 < 10 by decide) dX2_send_55 (fun H1 locs1 hW => ?_)
        rw [gu_gu] at hW
        have hW : PW E (fr g s.heap.size) s.heap H1 locs1 (gu g x (.inr (2, [.ref (xa), .ref (xk), .int (r 17 0), .int (nsetN r 8), .int ((r 17 1) + (1)), .int (0), .int (0), .int (0), .int (0), .int (-1)]))) := hW
        refine lv_aload_n hx hb dX2_send_58 rfl (lv_at hl 1 rfl) ?_
        refine lv_aload_n hx hb dX2_send_59 rfl (lv_at hl 0 rfl) ?_
        refine lv_iload_n hx hb dX2_send_60 rfl (lv_at hl 3 rfl) ?_
        have hR2 := HR.obj hR (z' := false) (r' := sendR r) (fun f hf => sendR_f (by omega)) (by simp [sendR, s2_a])
        have hfe : hfs xa xk false (sendR r) = [.ref (xa), .ref (xk), .int (r 17 0), .int (nsetN r 8), .int ((r 17 1) + (1)), .int (0), .int (0), .int (0), .int (0), .int (-1)] := by simp [sendR, tal, s2_a, hfs, nset_congr (show s2 (s2 (s2 (s2 (s2 (s2 r 17 1 (r 17 1 + 1)) 17 2 0) 17 3 0) 17 4 0) 17 5 0) 17 6 (-1) 5 = r 5 from sendR_f (r := r) (by decide))]
        rw [hfe] at hR2
        have hb8 : ix b < 8 := (ix_lt (n := 8) (by decide) c_267).mpr c_268
        have hR := hR2
        refine c_virt (own := RX2) (As := [.ref (ma (ix (a))), .int (b)]) (rest := []) hx hb hml hown hts hK hW (k_X2_carry l (8 - ix b) (by omega) (sendR r) _ (ix (a)) _ (by rw [show 8 - (8 - ix b) = ix b from by omega, nI_ix c_267]) hR (IV_send hIV) hi_266) ml_RX2_120 im_yX2_carry se_yX2_carry in_RX2 cd_yX2_carry 2 (by decide +kernel) ⟨show 4 * (8 - ix b) + 6 + 1 ≤ 50 from by omega, show 8 + (6 + 11) + (120 * (8 - ix b) + 200) ≤ 1300 from by omega⟩ hR.1 rfl rfl rfl hl.1 rfl (Nat.le_of_ble_eq_true rfl) dX2_send_61 ⟨Nat.le_of_ble_eq_true rfl, Nat.le_of_ble_eq_true rfl⟩ (fun v g2 H1 locs1 hp hW hKT => ?_)
        obtain ⟨rfl, hR⟩ := hp
        refine W.eq (g2 := F0 m 64 ls [.int ((carryF (8 - ix b) (sendR r) (ix (a))).2)]) rfl ?_
        exact r_int hx hb hr hlk hW (by have e0 : sendB r a b = true := (by simp [sendB, em_265, nhi_266, c_267, c_268]); rw [e0]; have e1 : Fsend r a b = ((carryF (8 - ix b) (sendR r) (ix (a))).2, (carryF (8 - ix b) (sendR r) (ix (a))).1) := (by simp [Fsend, e0]); rw [e1]; exact ⟨rfl, hR⟩) (Nat.le_of_ble_eq_true rfl) (Nat.le_of_ble_eq_true rfl) dX2_send_64
      · skip
        refine lv_bipush (v := -2) hx hb dX2_send_20 (by decide) ?_
        exact r_int hx hb hr hlk hW (by have e0 : sendB r a b = false := (by simp [sendB, em_265, nhi_266, c_267, c_268]); rw [e0]; have e1 : Fsend r a b = (-2, r) := (by simp [Fsend, e0]); rw [e1]; exact ⟨rfl, hR⟩) (Nat.le_of_ble_eq_true rfl) (Nat.le_of_ble_eq_true rfl) dX2_send_22

set_option maxHeartbeats 4000000 in
set_option maxRecDepth 100000 in
theorem k_X2_init (l : Launch) {E : gE} {g : gm} {x : Nat} (hh : g x = some (.inr (2, [.null, .null, .int (0), .int (0), .int (0), .int (0), .int (0), .int (0), .int (0), .int (0)]))) : CM l yX2_init cX2_init 1 none ({ frames := 1, cells := 2, slots := 68, locals := 30 }) E [.ref (x)] g (fun vv g' => vv = none ∧ ∃ xa xk, HR E x xa xk (fun _ => 0) (fun _ => 0) (fun _ => 0) true (fun _ _ => 0) g') := by
  refine CM.of (by decide) (Nat.le_of_ble_eq_true rfl) ?_
  intro p e s m below meth c ls hM hK hW hl
  obtain ⟨hx, hb, hr, hml, hown, hts, hlk, hnm⟩ := hM
  have hown : s.vm.findClass RX2 = some m.cls := hown
  have hl : lv_has ls 1 [(0, .ref (x))] := hl
  refine lv_aload_n hx hb dX2_init_0 rfl (lv_at hl 0 rfl) ?_
  refine W.objInit hx hb hown (hts _ ml_RX2_1) (hts _ im_objectInit) (hts _ cd_objectInit) rfl (by rw [hml]; exact hl.1) rfl dX2_init_1 (Nat.le_of_ble_eq_true rfl) (Nat.le_of_ble_eq_true rfl) ?_
  refine W.eq (g2 := F0 m 4 ls []) rfl ?_
  refine lv_aload_n hx hb dX2_init_4 rfl (lv_at hl 0 rfl) ?_
  refine lv_bipush (v := 60) hx hb dX2_init_5 (by decide) ?_
  refine g_newM (N' := 60) hx hb hown (hts _ cl_RX2_9) hK hW (by decide) rfl (by decide) (Nat.le_of_ble_eq_true rfl) (Nat.le_of_ble_eq_true rfl) dX2_init_7 (fun xa H1 f1 hW => ?_)
  obtain ⟨g_269, ge_270⟩ : ∃ zz, zz = gu g xa (.inl (E.2 2, 60, .inr (.inr (.inr (.inr (fun _ => none)))))) := ⟨_, rfl⟩
  have hW : PW E (fr g s.heap.size) s.heap H1 [] g_269 := by rw [ge_270]; exact hW
  have h_272 : g_269 x = some (.inr (2, [.null, .null, .int (0), .int (0), .int (0), .int (0), .int (0), .int (0), .int (0), .int (0)])) := ((congrFun ge_270 _).trans (gu_n _ _ (ne_none f1 hh))).trans hh
  have h_271 : g_269 xa = some (.inl (E.2 2, 60, .inr (.inr (.inr (.inr (fun _ => none)))))) := (congrFun ge_270 _).trans (gu_s _ _ _)
  refine g_putF hx hb hts inlX2 rfl tyX2 tyX2_ok nmX2 hown hK hW h_272 0 (by decide) fl_RX2_11 rfl hnm rfl rfl rfl (show 0 < 10 by decide) dX2_init_10 (fun H1 locs1 hW => ?_)
  obtain ⟨g_273, ge_274⟩ : ∃ zz, zz = gu g_269 x (.inr (2, [.ref (xa), .null, .int (0), .int (0), .int (0), .int (0), .int (0), .int (0), .int (0), .int (0)])) := ⟨_, rfl⟩
  have hW : PW E (fr g s.heap.size) s.heap H1 locs1 g_273 := by rw [ge_274]; exact hW
  have h_276 : g_273 xa = some (.inl (E.2 2, 60, .inr (.inr (.inr (.inr (fun _ => none)))))) := ((congrFun ge_274 _).trans (gu_n _ _ (ne_kd h_271 h_272 (by simp [kd])))).trans h_271
  have h_275 : g_273 x = some (.inr (2, [.ref (xa), .null, .int (0), .int (0), .int (0), .int (0), .int (0), .int (0), .int (0), .int (0)])) := (congrFun ge_274 _).trans (gu_s _ _ _)
  refine lv_aload_n hx hb dX2_init_13 rfl (lv_at hl 0 rfl) ?_
  refine lv_bipush (v := 8) hx hb dX2_init_14 (by decide) ?_
  refine g_newC (N' := 8) hx hb hown (hts _ cl_RX2_15) hK hW (by decide) rfl (by decide) (Nat.le_of_ble_eq_true rfl) (Nat.le_of_ble_eq_true rfl) dX2_init_16 (fun xk H1 f2 hW => ?_)
  obtain ⟨g_277, ge_278⟩ : ∃ zz, zz = gu g_273 xk (.inl (E.2 3, 8, .inr (.inr (.inr (.inr (fun _ => none)))))) := ⟨_, rfl⟩
  have hW : PW E (fr g s.heap.size) s.heap H1 locs1 g_277 := by rw [ge_278]; exact hW
  have h_280 : g_277 x = some (.inr (2, [.ref (xa), .null, .int (0), .int (0), .int (0), .int (0), .int (0), .int (0), .int (0), .int (0)])) := ((congrFun ge_278 _).trans (gu_n _ _ (ne_none f2 h_275))).trans h_275
  have h_281 : g_277 xa = some (.inl (E.2 2, 60, .inr (.inr (.inr (.inr (fun _ => none)))))) := ((congrFun ge_278 _).trans (gu_n _ _ (ne_none f2 h_276))).trans h_276
  have h_279 : g_277 xk = some (.inl (E.2 3, 8, .inr (.inr (.inr (.inr (fun _ => none)))))) := (congrFun ge_278 _).trans (gu_s _ _ _)
  refine g_putF hx hb hts inlX2 rfl tyX2 tyX2_ok nmX2 hown hK hW h_280 1 (by decide) fl_RX2_17 rfl hnm rfl rfl rfl (show 1 < 10 by decide) dX2_init_19 (fun H1 locs1 hW => ?_)
  obtain ⟨g_282, ge_283⟩ : ∃ zz, zz = gu g_277 x (.inr (2, [.ref (xa), .ref (xk), .int (0), .int (0), .int (0), .int (0), .int (0), .int (0), .int (0), .int (0)])) := ⟨_, rfl⟩
  have hW : PW E (fr g s.heap.size) s.heap H1 locs1 g_282 := by rw [ge_283]; exact hW
  have h_285 : g_282 xa = some (.inl (E.2 2, 60, .inr (.inr (.inr (.inr (fun _ => none)))))) := ((congrFun ge_283 _).trans (gu_n _ _ (ne_kd h_281 h_280 (by simp [kd])))).trans h_281
  have h_286 : g_282 xk = some (.inl (E.2 3, 8, .inr (.inr (.inr (.inr (fun _ => none)))))) := ((congrFun ge_283 _).trans (gu_n _ _ (ne_kd h_279 h_280 (by simp [kd])))).trans h_279
  have h_284 : g_282 x = some (.inr (2, [.ref (xa), .ref (xk), .int (0), .int (0), .int (0), .int (0), .int (0), .int (0), .int (0), .int (0)])) := (congrFun ge_283 _).trans (gu_s _ _ _)
  refine lv_aload_n hx hb dX2_init_22 rfl (lv_at hl 0 rfl) ?_
  refine lv_iconst (v := -1) hx hb dX2_init_23 (by decide) ?_
  refine g_put hx hb hts inlX2 rfl tyX2 tyX2_ok nmX2 hown hK hW h_284 9 (by decide) fl_RX2_21 rfl rfl rfl (show 9 < 10 by decide) dX2_init_24 (fun H1 locs1 hW => ?_)
  obtain ⟨g_287, ge_288⟩ : ∃ zz, zz = gu g_282 x (.inr (2, [.ref (xa), .ref (xk), .int (0), .int (0), .int (0), .int (0), .int (0), .int (0), .int (0), .int (-1)])) := ⟨_, rfl⟩
  have hW : PW E (fr g s.heap.size) s.heap H1 locs1 g_287 := by rw [ge_288]; exact hW
  have h_290 : g_287 xa = some (.inl (E.2 2, 60, .inr (.inr (.inr (.inr (fun _ => none)))))) := ((congrFun ge_288 _).trans (gu_n _ _ (ne_kd h_285 h_284 (by simp [kd])))).trans h_285
  have h_291 : g_287 xk = some (.inl (E.2 3, 8, .inr (.inr (.inr (.inr (fun _ => none)))))) := ((congrFun ge_288 _).trans (gu_n _ _ (ne_kd h_286 h_284 (by simp [kd])))).trans h_286
  have h_289 : g_287 x = some (.inr (2, [.ref (xa), .ref (xk), .int (0), .int (0), .int (0), .int (0), .int (0), .int (0), .int (0), .int (-1)])) := (congrFun ge_288 _).trans (gu_s _ _ _)
  exact r_void hx hb hr hlk hW (by exact ⟨rfl, xa, xk, h_289, by rw [h_290]; congr 6, by rw [h_291]; congr 6, fun i hi => absurd hi (by rw [nm0]; omega), fun k _ hs => absurd rfl hs, fun i j hi => absurd hi (by rw [nm0]; omega), by rw [nm0]; omega⟩) (Nat.le_of_ble_eq_true rfl) (Nat.le_of_ble_eq_true rfl) dX2_init_27
end
section
/-! the model's cells -/
def mln : Nat → Nat
  | 0 => 60 | 1 => 60 | 2 => 60 | 3 => 60 | 4 => 480
  | 5 => 8 | 6 => 8 | 7 => 8 | 8 => 8 | 9 => 8 | 10 => 8 | 11 => 8 | 12 => 8 | 13 => 8 | 14 => 8 | 15 => 8 | 16 => 8
  | _ => 40
def mcl : Nat → Nat
  | 5 => 1 | 6 => 1 | 7 => 1
  | _ => 0
def mrow (r t : sg) (f : Nat) : Nat → Int32 := if f < 17 then r f else t (f - 17)
abbrev mfs (ad : Nat → Nat) (r t : sg) : List Value := [.int (r 17 0), .ref (ad 0), .ref (ad 1), .ref (ad 2), .ref (ad 3), .ref (ad 4), .ref (ad 5), .ref (ad 6), .ref (ad 7), .ref (ad 8), .ref (ad 9), .ref (ad 10), .ref (ad 11), .ref (ad 12), .ref (ad 13), .ref (ad 14), .ref (ad 15), .ref (ad 16), .int (r 17 1), .int (r 17 2), .int (r 17 3), .int (r 17 4), .int (r 17 5), .int (r 17 6), .int (t 4 0), .ref (ad 17), .ref (ad 18), .ref (ad 19), .ref (ad 20)]
def MR (E : gE) (y : Nat) (ad : Nat → Nat) (r t : sg) (g : gm) : Prop := g y = some (.inr (3, mfs ad r t)) ∧ (∀ f, f < 21 → g (ad f) = some (.inl (E.2 (mcl f), mln f, .inl (mrow r t f)))) ∧ ∀ f f', f < 21 → f' < 21 → ad f = ad f' → f = f'
section MRL
variable {E : gE} {y : Nat} {ad : Nat → Nat} {r t : sg} {g : gm}
theorem MR.obj (h : MR E y ad r t g) {r' t' : sg} (h0 : ∀ f, f < 17 → r' f = r f) (h1 : ∀ f, f < 4 → t' f = t f) : MR E y ad r' t' (gu g y (.inr (3, mfs ad r' t'))) := by
  obtain ⟨a1, a2, a3⟩ := h
  refine ⟨gu_s _ _ _, fun f hf => ?_, a3⟩
  have b := a2 f hf
  rw [gu_n _ _ (ne_kd b a1 (by simp [kd])), b]
  have : mrow r' t' f = mrow r t f := by
    simp only [mrow]
    by_cases hq : f < 17
    · rw [if_pos hq, if_pos hq, h0 f hq]
    · rw [if_neg hq, if_neg hq, h1 (f - 17) (by omega)]
  rw [this]
theorem MR.arr (h : MR E y ad r t g) {f : Nat} (hf : f < 17) (j : Nat) (v : Int32) : MR E y ad (s2 r f j v) t (gu g (ad f) (.inl (E.2 (mcl f), mln f, .inl (upd (mrow r t f) j v)))) := by
  obtain ⟨a1, a2, a3⟩ := h
  have b := a2 f (by omega)
  refine ⟨?_, fun q hq => ?_, a3⟩
  · rw [gu_n _ _ (ne_kd a1 b (by simp [kd])), a1]
    simp [mfs, s2_f r (f := f) (f' := 17) j v (by omega)]
  · by_cases hqf : q = f
    · subst hqf
      rw [gu_s]
      simp [mrow, hf, s2_r]
    · rw [gu_n _ _ (fun e => hqf (a3 q f hq (by omega) e)), a2 q hq]
      have : mrow (s2 r f j v) t q = mrow r t q := by
        simp only [mrow]
        by_cases h17 : q < 17
        · rw [if_pos h17, if_pos h17, s2_f _ _ _ hqf]
        · rw [if_neg h17, if_neg h17]
      rw [this]
theorem MR.scr (h : MR E y ad r t g) {f : Nat} (hf : f < 4) (j : Nat) (v : Int32) : MR E y ad r (s2 t f j v) (gu g (ad (f + 17)) (.inl (E.2 (mcl (f + 17)), mln (f + 17), .inl (upd (mrow r t (f + 17)) j v)))) := by
  obtain ⟨a1, a2, a3⟩ := h
  have b := a2 (f + 17) (by omega)
  refine ⟨?_, fun q hq => ?_, a3⟩
  · rw [gu_n _ _ (ne_kd a1 b (by simp [kd])), a1]
    simp [mfs, s2_f t (f := f) (f' := 4) j v (by omega)]
  · by_cases hqf : q = f + 17
    · subst hqf
      rw [gu_s]
      simp [mrow, s2_r, show ¬ f + 17 < 17 by omega]
    · rw [gu_n _ _ (fun e => hqf (a3 q (f + 17) hq (by omega) e)), a2 q hq]
      have : mrow r (s2 t f j v) q = mrow r t q := by
        simp only [mrow]
        by_cases h17 : q < 17
        · rw [if_pos h17, if_pos h17]
        · rw [if_neg h17, if_neg h17, s2_f _ _ _ (by omega)]
      rw [this]
end MRL
section MROW
variable {p : Program} {l : Launch} {e : Env} {R : Room} {s : State} {m : MethodId} {args : Array Value} {below : List Frame} {meth : Method} {c : Code} {H : Heap} {locs : List Loc} {cells slots : Nat} {Q : State → Prop}
variable {cc : ByteArray} {pc : Nat} {ls : Array Slot} {rest : List Value} {E : gE} {A : Nat → Prop} {H0 : Heap} {g : gm} {y : Nat} {ad : Nat → Nat} {r t : sg} {own : String} {index : Nat}
theorem m_get (hx : p.tables.exec = Jvm.exec) (hb : c.code = cc) (hts : ∀ w ∈ wsL_law, w.before args s = true) (hown : s.vm.findClass own = some m.cls) (hK : KC E s) (hW : PW E A H0 H locs g) (hM : MR E y ad r t g) (k : Nat) (hk : k < 29) (hlink : Cond.fieldLink own index (TX3 k).1 (TX3 k).2.1 (TX3 k).2.2.1 ∈ wsL_law) {v : Value} (hv : (mfs ad r t)[k]? = some v) (hdg : decode cc pc = .ok (.getfield index, 3))
    (kk : W p l e R s m args below meth c H locs cells slots Q (F0 m (pc + 3) ls (v :: rest))) : W p l e R s m args below meth c H locs cells slots Q (F0 m pc ls (.ref y :: rest)) :=
  g_get hx hb hts inlX3 rfl hown hK hW hM.1 k hk hlink hv hdg kk
theorem m_put {r' t' : sg} {v : Int32} (hx : p.tables.exec = Jvm.exec) (hb : c.code = cc) (hts : ∀ w ∈ wsL_law, w.before args s = true) (hown : s.vm.findClass own = some m.cls) (hK : KC E s) (hW : PW E A H0 H locs g) (hM : MR E y ad r t g) (k : Nat) (hk : k < 29) (hlink : Cond.fieldLink own index (TX3 k).1 (TX3 k).2.1 (TX3 k).2.2.1 ∈ wsL_law) (hfin : (TX3 k).2.2.2 = false) (hty : tyX3 k = .int) (h0 : ∀ f, f < 17 → r' f = r f) (h1 : ∀ f, f < 4 → t' f = t f) (hset : (mfs ad r t).set k (.int v) = mfs ad r' t') (hdg : decode cc pc = .ok (.putfield index, 3))
    (kk : ∀ (H1 : Heap) (locs1 : List Loc) (g1 : gm), PW E A H0 H1 locs1 g1 → MR E y ad r' t' g1 → W p l e R s m args below meth c H1 locs1 cells slots Q (F0 m (pc + 3) ls rest)) : W p l e R s m args below meth c H locs cells slots Q (F0 m pc ls (.int v :: .ref y :: rest)) := by
  refine g_put hx hb hts inlX3 rfl tyX3 tyX3_ok nmX3 hown hK hW hM.1 k hk hlink hfin (by rw [hty]; rfl) (by rw [hty]; rfl) hk hdg (fun H1 locs1 hW1 => ?_)
  rw [hset] at hW1
  exact kk H1 locs1 _ hW1 (hM.obj h0 h1)
theorem m_iald (f : Nat) {j : Nat} {i v : Int32} (hx : p.tables.exec = Jvm.exec) (hb : c.code = cc) (hK : KC E s) (hW : PW E A H0 H locs g) (hM : MR E y ad r t g) (hf : f < 21) (hc : mcl f = 0) (hi : i = nI j) (hj : j < mln f) (hv : mrow r t f j = v) (hdg : decode cc pc = .ok (.iaload, 1))
    (kk : W p l e R s m args below meth c H locs cells slots Q (F0 m (pc + 1) ls (.int v :: rest))) : W p l e R s m args below meth c H locs cells slots Q (F0 m pc ls (.int i :: .ref (ad f) :: rest)) := by
  have b := hM.2.1 f hf
  rw [hc] at b
  have h480 : mln f ≤ 480 := by unfold mln; split <;> omega
  subst hi
  refine g_iald hx hb hK hW b (vp_in_nI hj (by omega)) hdg ?_
  rw [nI_clamp (by omega), hv]
  exact kk
theorem m_zald (f : Nat) {j : Nat} {i v : Int32} (hx : p.tables.exec = Jvm.exec) (hb : c.code = cc) (hK : KC E s) (hW : PW E A H0 H locs g) (hM : MR E y ad r t g) (hf : f < 21) (hc : mcl f = 1) (hi : i = nI j) (hj : j < mln f) (hv : mrow r t f j = v) (hdg : decode cc pc = .ok (.baload, 1))
    (kk : W p l e R s m args below meth c H locs cells slots Q (F0 m (pc + 1) ls (.int v :: rest))) : W p l e R s m args below meth c H locs cells slots Q (F0 m pc ls (.int i :: .ref (ad f) :: rest)) := by
  have b := hM.2.1 f hf
  rw [hc] at b
  have h480 : mln f ≤ 480 := by unfold mln; split <;> omega
  subst hi
  refine g_zald hx hb hK hW b (vp_in_nI hj (by omega)) hdg ?_
  rw [nI_clamp (by omega), hv]
  exact kk
theorem m_iast (f : Nat) {j : Nat} {i v : Int32} (hx : p.tables.exec = Jvm.exec) (hb : c.code = cc) (hK : KC E s) (hW : PW E A H0 H locs g) (hM : MR E y ad r t g) (hf : f < 17) (hc : mcl f = 0) (hi : i = nI j) (hj : j < mln f) (hdg : decode cc pc = .ok (.iastore, 1))
    (kk : ∀ (H1 : Heap) (locs1 : List Loc) (g1 : gm), PW E A H0 H1 locs1 g1 → MR E y ad (s2 r f j v) t g1 → W p l e R s m args below meth c H1 locs1 cells slots Q (F0 m (pc + 1) ls rest)) : W p l e R s m args below meth c H locs cells slots Q (F0 m pc ls (.int v :: .int i :: .ref (ad f) :: rest)) := by
  have b := hM.2.1 f (by omega)
  have hm := hM.arr hf j v
  rw [hc] at b hm
  have h480 : mln f ≤ 480 := by unfold mln; split <;> omega
  subst hi
  refine g_iast hx hb hK hW b (vp_in_nI hj (by omega)) hdg (fun H1 locs1 hW1 => ?_)
  rw [nI_clamp (by omega)] at hW1
  exact kk H1 locs1 _ hW1 hm
theorem m_zast (f : Nat) {j : Nat} {i v : Int32} (hx : p.tables.exec = Jvm.exec) (hb : c.code = cc) (hK : KC E s) (hW : PW E A H0 H locs g) (hM : MR E y ad r t g) (hf : f < 17) (hc : mcl f = 1) (hi : i = nI j) (hj : j < mln f) (hn : vp_nar .boolean v = v) (hdg : decode cc pc = .ok (.bastore, 1))
    (kk : ∀ (H1 : Heap) (locs1 : List Loc) (g1 : gm), PW E A H0 H1 locs1 g1 → MR E y ad (s2 r f j v) t g1 → W p l e R s m args below meth c H1 locs1 cells slots Q (F0 m (pc + 1) ls rest)) : W p l e R s m args below meth c H locs cells slots Q (F0 m pc ls (.int v :: .int i :: .ref (ad f) :: rest)) := by
  have b := hM.2.1 f (by omega)
  have hm := hM.arr hf j v
  rw [hc] at b hm
  have h480 : mln f ≤ 480 := by unfold mln; split <;> omega
  subst hi
  refine g_zast hx hb hK hW b (vp_in_nI hj (by omega)) hdg (fun H1 locs1 hW1 => ?_)
  rw [nI_clamp (by omega), hn] at hW1
  exact kk H1 locs1 _ hW1 hm
theorem m_sast (f : Nat) {j : Nat} {i v : Int32} (hx : p.tables.exec = Jvm.exec) (hb : c.code = cc) (hK : KC E s) (hW : PW E A H0 H locs g) (hM : MR E y ad r t g) (hf : f < 4) (hi : i = nI j) (hj : j < 40) (hdg : decode cc pc = .ok (.iastore, 1))
    (kk : ∀ (H1 : Heap) (locs1 : List Loc) (g1 : gm), PW E A H0 H1 locs1 g1 → MR E y ad r (s2 t f j v) g1 → W p l e R s m args below meth c H1 locs1 cells slots Q (F0 m (pc + 1) ls rest)) : W p l e R s m args below meth c H locs cells slots Q (F0 m pc ls (.int v :: .int i :: .ref (ad (f + 17)) :: rest)) := by
  have b := hM.2.1 (f + 17) (by omega)
  have hm := hM.scr hf j v
  have hc : mcl (f + 17) = 0 := by unfold mcl; split <;> omega
  have hl : mln (f + 17) = 40 := by unfold mln; split <;> omega
  rw [hc, hl] at b hm
  subst hi
  refine g_iast hx hb hK hW b (vp_in_nI hj (by omega)) hdg (fun H1 locs1 hW1 => ?_)
  rw [nI_clamp (by omega)] at hW1
  exact kk H1 locs1 _ hW1 hm
theorem it_e {a b : Nat} {x z : Int32} (ha : x = nI a) (hb : z = nI b) : (8 : Int32) * x + z = nI (8 * a + b) := by rw [ha, hb, show (8 : Int32) = nI 8 from rfl, pk_mul, nI_add]
theorem it_0 {a : Nat} {x : Int32} (ha : x = nI a) : (8 : Int32) * x = nI (8 * a) := by rw [ha, show (8 : Int32) = nI 8 from rfl, pk_mul]
end MROW
/-! the model's questions, as the state has them -/
def mIn (v lo hi : Int32) : Bool := !decide (v < lo) && !decide (hi < v)
theorem mIn_n {v : Int32} {n : Nat} (hn : n < 2 ^ 30) : mIn v 0 (nI n - 1) = (!decide (v < 0) && decide (v < nI n)) := by
  have e : (nI n - 1).toInt = (n : Int) - 1 := by
    exact pk_sub_toInt (a := n) (b := 1) hn (by decide)
  have e2 : (nI n - 1 < v) ↔ ¬ (v < nI n) := by
    rw [Int32.lt_iff_toInt_lt, Int32.lt_iff_toInt_lt, e, nI_toInt (by omega)]
    omega
  by_cases h : v < nI n
  · have : ¬ (nI n - 1 < v) := fun q => (e2.mp q) h
    simp [mIn, h, this]
  · have := e2.mpr h
    simp [mIn, h, this]
theorem mIn_isM {r : sg} (h0 : ¬ r 17 0 < 0) (h60 : nm r ≤ 60) (m : Int32) : mIn m 0 (r 17 0 - 1) = isMb r m := by
  have e1 : r 17 0 = nI (nm r) := (nI_ix h0).symm
  rw [e1, mIn_n (by omega)]
  by_cases hm : m < 0
  · simp [isMb, hm]
  · simp [isMb, hm, ix_lt (show nm r < 2 ^ 31 by omega) hm]
theorem mIn_in {n : Int32} (hn : ¬ n < 0) (h8 : ix n ≤ 8) (v : Int32) : mIn v 0 (n - 1) = inB v n := by
  have e1 : n = nI (ix n) := (nI_ix hn).symm
  rw [e1, mIn_n (by omega)]
  rfl
theorem lt4 (b : Int32) : b < 4 ↔ ¬ 3 < b := by
  rw [Int32.lt_iff_toInt_lt, Int32.lt_iff_toInt_lt]
  show b.toInt < 4 ↔ ¬ 3 < b.toInt
  omega
theorem cut_e (v : Int32) : v &&& 65535 = (v.toUInt32 % 65536).toInt32 := by rw [pk_char, pk_and v 16 (by decide)]
end
section
def bunB (r : sg) (i : Nat) : Bool := decide (0 < r 1 i) && !figB (r 0 i) (r 1 i)
theorem inB_lt {v n : Int32} (h : inB v n = true) (h3 : ¬ n < 0) : ¬ v < 0 ∧ ix v < ix n := by
  simp only [inB, Bool.and_eq_true, Bool.not_eq_true', decide_eq_false_iff_not, decide_eq_true_eq] at h
  obtain ⟨h1, h2⟩ := h
  refine ⟨h1, ?_⟩
  rw [Int32.lt_iff_toInt_lt, ix_i h1, ix_i h3] at h2
  omega
theorem view_kind (b d : Int32) : ((mIn b 0 3 && mIn d 0 3) || (mIn b 4 5 && mIn d 1 3)) = kindB b d := by
  have h4 : ∀ a c : Int32, a < c ↔ a.toInt < c.toInt := fun _ _ => Int32.lt_iff_toInt_lt
  simp only [mIn, kindB]
  rw [Bool.eq_iff_iff]
  simp only [Bool.or_eq_true, Bool.and_eq_true, Bool.not_eq_true', decide_eq_false_iff_not]
  by_cases hb : b < 4
  · rw [if_pos hb]
    simp only [h4] at hb ⊢
    simp only [show (0 : Int32).toInt = 0 from rfl, show (1 : Int32).toInt = 1 from rfl, show (3 : Int32).toInt = 3 from rfl, show (4 : Int32).toInt = 4 from rfl, show (5 : Int32).toInt = 5 from rfl] at hb ⊢
    omega
  · rw [if_neg hb]
    simp only [h4] at hb ⊢
    simp only [show (0 : Int32).toInt = 0 from rfl, show (1 : Int32).toInt = 1 from rfl, show (3 : Int32).toInt = 3 from rfl, show (4 : Int32).toInt = 4 from rfl, show (5 : Int32).toInt = 5 from rfl] at hb ⊢
    omega
theorem in_t {a : Int32} {n : Nat} (hn : n < 2 ^ 31) (h : mIn a 0 (nI n) = true) : ∃ j, j ≤ n ∧ a = nI j := by
  simp only [mIn, Bool.and_eq_true, Bool.not_eq_true', decide_eq_false_iff_not] at h
  refine ⟨ix a, ?_, (nI_ix h.1).symm⟩
  have h2 := h.2
  rw [Int32.lt_iff_toInt_lt, ix_i h.1, nI_toInt hn] at h2
  omega
theorem in_f {a : Int32} {n : Nat} (hn : n < 2 ^ 31) (h : mIn a 0 (nI n) = false) {j : Nat} (hj : j ≤ n) : ¬ a = nI j := fun e => by
  have h1 : ¬ a < 0 := by rw [e]; exact nI_pos (by omega)
  have h2 : ¬ nI n < a := by rw [e]; exact nI_nlt hj hn
  simp [mIn, h1, h2] at h
theorem place_eq {r : sg} {i : Nat} (h : IVm r i) (j : Int32) : (bunB r i && mIn j 0 (r 3 i - 1)) = hasP r i j := by
  rw [mIn_in h.2.2.1 h.2.2.2.1]
  by_cases hd : r 1 i = 0
  · have h0 : inB j 0 = false := by
      by_cases hj : j < 0
      · simp [inB, hj]
      · simp [inB, hj]
    have e3 := h.2.1 hd
    simp only [bunB, hasP, hd, e3]
    have h00 : ¬ (0 : Int32) < 0 := by decide
    have hx : (!decide (j < 0) && decide (j < 0)) = false := h0
    simp only [h00, hx, decide_false, Bool.false_and, Bool.and_false]
  · have hp : 0 < r 1 i := by
      have h1 := h.1
      rw [Int32.lt_iff_toInt_lt] at h1 ⊢
      have : (r 1 i).toInt ≠ 0 := fun q => hd (Int32.toInt_inj.mp q)
      simp only [show (0 : Int32).toInt = 0 from rfl] at h1 ⊢
      omega
    simp [bunB, hasP, inB, hp]
theorem num_eq {r : sg} {i : Nat} (h : IVm r i) (j : Int32) : (figB (r 0 i) (r 1 i) && mIn j 0 (r 3 i - 1)) = hasN r i j := by
  rw [mIn_in h.2.2.1 h.2.2.2.1]
  rfl

set_option maxHeartbeats 4000000 in
set_option maxRecDepth 100000 in
theorem k_X3_in (l : Launch) {E : gE} {g : gm} (a b d : Int32) : CM l yX3_in cX3_in 3 (some .boolean) ({ frames := 0, cells := 0, slots := 0, locals := 0 }) E [.int (a), .int (b), .int (d)] g (fun vv g' => vv = some (.int (bI (mIn a b d))) ∧ g' = g) := by
  refine CM.of (by decide) (Nat.le_of_ble_eq_true rfl) ?_
  intro p e s m below meth c ls hM hK hW hl
  obtain ⟨hx, hb, hr, hml, hown, hts, hlk, hnm⟩ := hM
  have hown : s.vm.findClass RX3 = some m.cls := hown
  have hl : lv_has ls 3 [(0, .int (a)), (1, .int (b)), (2, .int (d))] := hl
  refine lv_iload_n hx hb dX3_in_0 rfl (lv_at hl 0 rfl) ?_
  refine lv_iload_n hx hb dX3_in_1 rfl (lv_at hl 1 rfl) ?_
  refine lv_icmp_lt (tgt := 14) hx hb dX3_in_2 (by decide) (fun c_292 => ?_) (fun c_292 => ?_)
  · skip
    refine lv_iconst (v := 0) hx hb dX3_in_14 (by decide) ?_
    exact r_bool hx hb hr hlk hW rfl (by refine ⟨?_, rfl⟩; first | with_reducible rfl | (simp [bI, mIn, c_292]; done) | (simp_all [bI, mIn]; done)) (Nat.le_of_ble_eq_true rfl) (Nat.le_of_ble_eq_true rfl) dX3_in_15
  · skip
    refine lv_iload_n hx hb dX3_in_5 rfl (lv_at hl 0 rfl) ?_
    refine lv_iload_n hx hb dX3_in_6 rfl (lv_at hl 2 rfl) ?_
    refine lv_icmp_gt (tgt := 14) hx hb dX3_in_7 (by decide) (fun c_293 => ?_) (fun c_293 => ?_)
    · skip
      refine lv_iconst (v := 0) hx hb dX3_in_14 (by decide) ?_
      exact r_bool hx hb hr hlk hW rfl (by refine ⟨?_, rfl⟩; first | with_reducible rfl | (simp [bI, mIn, c_292, c_293]; done) | (simp_all [bI, mIn]; done)) (Nat.le_of_ble_eq_true rfl) (Nat.le_of_ble_eq_true rfl) dX3_in_15
    · skip
      refine lv_iconst (v := 1) hx hb dX3_in_10 (by decide) ?_
      refine lv_goto (tgt := 15) hx hb dX3_in_11 (by decide) ?_
      exact r_bool hx hb hr hlk hW rfl (by refine ⟨?_, rfl⟩; first | with_reducible rfl | (simp [bI, mIn, c_292, c_293]; done) | (simp_all [bI, mIn]; done)) (Nat.le_of_ble_eq_true rfl) (Nat.le_of_ble_eq_true rfl) dX3_in_15

set_option maxHeartbeats 4000000 in
set_option maxRecDepth 100000 in
theorem k_X3_passes (l : Launch) {E : gE} {g : gm} (a b : Int32) : CM l yX3_passes cX3_passes 2 (some .boolean) ({ frames := 0, cells := 0, slots := 0, locals := 0 }) E [.int (a), .int (b)] g (fun vv g' => vv = some (.int (bI (passB a b))) ∧ g' = g) := by
  refine CM.of (by decide) (Nat.le_of_ble_eq_true rfl) ?_
  intro p e s m below meth c ls hM hK hW hl
  obtain ⟨hx, hb, hr, hml, hown, hts, hlk, hnm⟩ := hM
  have hown : s.vm.findClass RX3 = some m.cls := hown
  have hl : lv_has ls 2 [(0, .int (a)), (1, .int (b))] := hl
  refine lv_iload_n hx hb dX3_passes_0 rfl (lv_at hl 0 rfl) ?_
  refine lv_iload_n hx hb dX3_passes_1 rfl (lv_at hl 1 rfl) ?_
  refine lv_icmp_eq (tgt := 29) hx hb dX3_passes_2 (by decide) (fun c_294 => ?_) (fun c_294 => ?_)
  · skip
    refine lv_iconst (v := 1) hx hb dX3_passes_29 (by decide) ?_
    refine lv_goto (tgt := 34) hx hb dX3_passes_30 (by decide) ?_
    exact r_bool hx hb hr hlk hW rfl (by refine ⟨?_, rfl⟩; first | with_reducible rfl | (simp [bI, passB, c_294]; done) | (simp_all [bI, passB]; done)) (Nat.le_of_ble_eq_true rfl) (Nat.le_of_ble_eq_true rfl) dX3_passes_34
  · skip
    refine lv_iload_n hx hb dX3_passes_5 rfl (lv_at hl 1 rfl) ?_
    refine lv_if_ne (tgt := 19) hx hb dX3_passes_6 (by decide) (fun c_295 => ?_) (fun c_295 => ?_)
    · skip
      refine lv_iload_n hx hb dX3_passes_19 rfl (lv_at hl 0 rfl) ?_
      refine lv_iconst (v := 2) hx hb dX3_passes_20 (by decide) ?_
      refine lv_icmp_ne (tgt := 33) hx hb dX3_passes_21 (by decide) (fun c_296 => ?_) (fun c_296 => ?_)
      · skip
        refine lv_iconst (v := 0) hx hb dX3_passes_33 (by decide) ?_
        exact r_bool hx hb hr hlk hW rfl (by refine ⟨?_, rfl⟩; first | with_reducible rfl | (simp [bI, passB, c_294, c_295, c_296]; done) | (simp_all [bI, passB]; done)) (Nat.le_of_ble_eq_true rfl) (Nat.le_of_ble_eq_true rfl) dX3_passes_34
      · skip
        refine lv_iload_n hx hb dX3_passes_24 rfl (lv_at hl 1 rfl) ?_
        refine lv_iconst (v := 3) hx hb dX3_passes_25 (by decide) ?_
        refine lv_icmp_ne (tgt := 33) hx hb dX3_passes_26 (by decide) (fun c_297 => ?_) (fun c_297 => ?_)
        · skip
          refine lv_iconst (v := 0) hx hb dX3_passes_33 (by decide) ?_
          exact r_bool hx hb hr hlk hW rfl (by refine ⟨?_, rfl⟩; first | with_reducible rfl | (simp [bI, passB, c_294, c_295, c_296, c_297]; done) | (simp_all [bI, passB]; done)) (Nat.le_of_ble_eq_true rfl) (Nat.le_of_ble_eq_true rfl) dX3_passes_34
        · skip
          refine lv_iconst (v := 1) hx hb dX3_passes_29 (by decide) ?_
          refine lv_goto (tgt := 34) hx hb dX3_passes_30 (by decide) ?_
          exact r_bool hx hb hr hlk hW rfl (by refine ⟨?_, rfl⟩; first | with_reducible rfl | (simp [bI, passB, c_294, c_295, c_296, c_297]; done) | (simp_all [bI, passB]; done)) (Nat.le_of_ble_eq_true rfl) (Nat.le_of_ble_eq_true rfl) dX3_passes_34
    · skip
      refine lv_iload_n hx hb dX3_passes_9 rfl (lv_at hl 0 rfl) ?_
      refine lv_iconst (v := 1) hx hb dX3_passes_10 (by decide) ?_
      refine lv_icmp_eq (tgt := 29) hx hb dX3_passes_11 (by decide) (fun c_298 => ?_) (fun c_298 => ?_)
      · skip
        refine lv_iconst (v := 1) hx hb dX3_passes_29 (by decide) ?_
        refine lv_goto (tgt := 34) hx hb dX3_passes_30 (by decide) ?_
        exact r_bool hx hb hr hlk hW rfl (by refine ⟨?_, rfl⟩; first | with_reducible rfl | (simp [bI, passB, c_294, c_295, c_298]; done) | (simp_all [bI, passB]; done)) (Nat.le_of_ble_eq_true rfl) (Nat.le_of_ble_eq_true rfl) dX3_passes_34
      · skip
        refine lv_iload_n hx hb dX3_passes_14 rfl (lv_at hl 0 rfl) ?_
        refine lv_iconst (v := 2) hx hb dX3_passes_15 (by decide) ?_
        refine lv_icmp_eq (tgt := 29) hx hb dX3_passes_16 (by decide) (fun c_299 => ?_) (fun c_299 => ?_)
        · skip
          refine lv_iconst (v := 1) hx hb dX3_passes_29 (by decide) ?_
          refine lv_goto (tgt := 34) hx hb dX3_passes_30 (by decide) ?_
          exact r_bool hx hb hr hlk hW rfl (by refine ⟨?_, rfl⟩; first | with_reducible rfl | (simp [bI, passB, c_294, c_295, c_298, c_299]; done) | (simp_all [bI, passB]; done)) (Nat.le_of_ble_eq_true rfl) (Nat.le_of_ble_eq_true rfl) dX3_passes_34
        · skip
          refine lv_iload_n hx hb dX3_passes_19 rfl (lv_at hl 0 rfl) ?_
          refine lv_iconst (v := 2) hx hb dX3_passes_20 (by decide) ?_
          refine lv_icmp_ne (tgt := 33) hx hb dX3_passes_21 (by decide) (fun c_300 => ?_) (fun c_300 => ?_)
          · skip
            refine lv_iconst (v := 0) hx hb dX3_passes_33 (by decide) ?_
            exact r_bool hx hb hr hlk hW rfl (by refine ⟨?_, rfl⟩; first | with_reducible rfl | (simp [bI, passB, c_294, c_295, c_298, c_299, c_300]; done) | (simp_all [bI, passB]; done)) (Nat.le_of_ble_eq_true rfl) (Nat.le_of_ble_eq_true rfl) dX3_passes_34
          · skip
            refine lv_iload_n hx hb dX3_passes_24 rfl (lv_at hl 1 rfl) ?_
            refine lv_iconst (v := 3) hx hb dX3_passes_25 (by decide) ?_
            refine lv_icmp_ne (tgt := 33) hx hb dX3_passes_26 (by decide) (fun c_301 => ?_) (fun c_301 => ?_)
            · skip
              refine lv_iconst (v := 0) hx hb dX3_passes_33 (by decide) ?_
              exact r_bool hx hb hr hlk hW rfl (by refine ⟨?_, rfl⟩; first | with_reducible rfl | (simp [bI, passB, c_294, c_295, c_298, c_299, c_300, c_301]; done) | (simp_all [bI, passB]; done)) (Nat.le_of_ble_eq_true rfl) (Nat.le_of_ble_eq_true rfl) dX3_passes_34
            · skip
              refine lv_iconst (v := 1) hx hb dX3_passes_29 (by decide) ?_
              refine lv_goto (tgt := 34) hx hb dX3_passes_30 (by decide) ?_
              exact r_bool hx hb hr hlk hW rfl (by refine ⟨?_, rfl⟩; first | with_reducible rfl | (simp [bI, passB, c_294, c_295, c_298, c_299, c_300, c_301]; done) | (simp_all [bI, passB]; done)) (Nat.le_of_ble_eq_true rfl) (Nat.le_of_ble_eq_true rfl) dX3_passes_34

set_option maxHeartbeats 4000000 in
set_option maxRecDepth 100000 in
theorem k_X3_isMessage (l : Launch) {E : gE} {y : Nat} {ad : Nat → Nat} {r t : sg} {g : gm} (hM : MR E y ad r t g) (hn0 : ¬ r 17 0 < 0) (h60 : nm r ≤ 60) (a : Int32) : CM l yX3_isMessage cX3_isMessage 2 (some .boolean) ({ frames := 1, cells := 0, slots := 0, locals := 22 }) E [.ref (y), .int (a)] g (fun vv g' => vv = some (.int (bI (isMb r a))) ∧ g' = g) := by
  refine CM.of (by decide) (Nat.le_of_ble_eq_true rfl) ?_
  intro p e s m below meth c ls hM hK hW hl
  obtain ⟨hx, hb, hr, hml, hown, hts, hlk, hnm⟩ := hM
  have hown : s.vm.findClass RX3 = some m.cls := hown
  have hl : lv_has ls 2 [(0, .ref (y)), (1, .int (a))] := hl
  refine lv_iload_n hx hb dX3_isMessage_0 rfl (lv_at hl 1 rfl) ?_
  refine lv_iconst (v := 0) hx hb dX3_isMessage_1 (by decide) ?_
  refine lv_aload_n hx hb dX3_isMessage_2 rfl (lv_at hl 0 rfl) ?_
  refine m_get hx hb hts hown hK hW hM 0 (by decide) fl_RX3_74 (v := .int (r 17 0)) rfl dX3_isMessage_3 ?_
  refine lv_iconst (v := 1) hx hb dX3_isMessage_6 (by decide) ?_
  refine lv_isub hx hb dX3_isMessage_7 ?_
  refine c_stat (own := RX3) (As := [.int (a), .int (0), .int ((r 17 0) - (1))]) (rest := []) hx hb hml hown hts hK hW (k_X3_in l _ _ _) ml_RX3_78 st_yX3_in in_RX3 cd_yX3_in 3 (by decide +kernel) ⟨Nat.le_of_ble_eq_true rfl, Nat.le_of_ble_eq_true rfl⟩ rfl hl.1 rfl (Nat.le_of_ble_eq_true rfl) dX3_isMessage_8 ⟨Nat.le_of_ble_eq_true rfl, Nat.le_of_ble_eq_true rfl⟩ (fun v g2 H1 locs1 hp hW hKT => ?_)
  obtain ⟨rfl, hg⟩ := hp
  rw [hg] at hW
  refine W.eq (g2 := F0 m 11 ls [.int (bI (mIn (a) (0) ((r 17 0) - (1))))]) rfl ?_
  exact r_bool hx hb hr hlk hW (nb_bI _) (by exact ⟨by rw [← mIn_isM hn0 h60], rfl⟩) (Nat.le_of_ble_eq_true rfl) (Nat.le_of_ble_eq_true rfl) dX3_isMessage_11

set_option maxHeartbeats 4000000 in
set_option maxRecDepth 100000 in
theorem k_X3_isOf (l : Launch) {E : gE} {y : Nat} {ad : Nat → Nat} {r t : sg} {g : gm} (hM : MR E y ad r t g) {i : Nat} {a : Int32} (ha : a = nI i) (hi : i < 60) (b d : Int32) : CM l yX3_isOf cX3_isOf 4 (some .boolean) ({ frames := 1, cells := 0, slots := 0, locals := 21 }) E [.ref (y), .int (a), .int (b), .int (d)] g (fun vv g' => vv = some (.int (bI (fitB r i b d))) ∧ g' = g) := by
  refine CM.of (by decide) (Nat.le_of_ble_eq_true rfl) ?_
  intro p e s m below meth c ls hM hK hW hl
  obtain ⟨hx, hb, hr, hml, hown, hts, hlk, hnm⟩ := hM
  have hown : s.vm.findClass RX3 = some m.cls := hown
  have hl : lv_has ls 4 [(0, .ref (y)), (1, .int (a)), (2, .int (b)), (3, .int (d))] := hl
  refine lv_aload_n hx hb dX3_isOf_0 rfl (lv_at hl 0 rfl) ?_
  refine m_get hx hb hts hown hK hW hM 2 (by decide) fl_RX3_13 (v := .ref (ad 1)) rfl dX3_isOf_1 ?_
  refine lv_iload_n hx hb dX3_isOf_4 rfl (lv_at hl 1 rfl) ?_
  refine m_iald 1 (j := i) (v := r 1 i) hx hb hK hW hM (by decide) rfl ha (show i < 60 from by omega) rfl dX3_isOf_5 ?_
  refine lv_iload_n hx hb dX3_isOf_6 rfl (lv_at hl 3 rfl) ?_
  refine lv_icmp_ne (tgt := 27) hx hb dX3_isOf_7 (by decide) (fun c_302 => ?_) (fun c_302 => ?_)
  · skip
    refine lv_iconst (v := 0) hx hb dX3_isOf_27 (by decide) ?_
    exact r_bool hx hb hr hlk hW rfl (by refine ⟨?_, rfl⟩; first | with_reducible rfl | (simp [bI, fitB, c_302]; done) | (simp_all [bI, fitB]; done)) (Nat.le_of_ble_eq_true rfl) (Nat.le_of_ble_eq_true rfl) dX3_isOf_28
  · skip
    refine lv_aload_n hx hb dX3_isOf_10 rfl (lv_at hl 0 rfl) ?_
    refine m_get hx hb hts hown hK hW hM 1 (by decide) fl_RX3_7 (v := .ref (ad 0)) rfl dX3_isOf_11 ?_
    refine lv_iload_n hx hb dX3_isOf_14 rfl (lv_at hl 1 rfl) ?_
    refine m_iald 0 (j := i) (v := r 0 i) hx hb hK hW hM (by decide) rfl ha (show i < 60 from by omega) rfl dX3_isOf_15 ?_
    refine lv_iload_n hx hb dX3_isOf_16 rfl (lv_at hl 2 rfl) ?_
    refine c_stat (own := RX3) (As := [.int (r 0 i), .int (b)]) (rest := []) hx hb hml hown hts hK hW (k_X3_passes l _ _) ml_RX3_82 st_yX3_passes in_RX3 cd_yX3_passes 2 (by decide +kernel) ⟨Nat.le_of_ble_eq_true rfl, Nat.le_of_ble_eq_true rfl⟩ rfl hl.1 rfl (Nat.le_of_ble_eq_true rfl) dX3_isOf_17 ⟨Nat.le_of_ble_eq_true rfl, Nat.le_of_ble_eq_true rfl⟩ (fun v g2 H1 locs1 hp hW hKT => ?_)
    obtain ⟨rfl, hg⟩ := hp
    rw [hg] at hW
    refine W.eq (g2 := F0 m 20 ls [.int (bI (passB (r 0 i) (b)))]) rfl ?_
    refine lv_if_eq (tgt := 27) hx hb dX3_isOf_20 (by decide) (fun c_303 => ?_) (fun c_303 => ?_)
    · skip
      have c_303 := (bI_eq0 _).mp c_303
      refine lv_iconst (v := 0) hx hb dX3_isOf_27 (by decide) ?_
      exact r_bool hx hb hr hlk hW rfl (by refine ⟨?_, rfl⟩; first | with_reducible rfl | (simp [bI, fitB, c_302, c_303]; done) | (simp_all [bI, fitB]; done)) (Nat.le_of_ble_eq_true rfl) (Nat.le_of_ble_eq_true rfl) dX3_isOf_28
    · skip
      have c_303 := bI_ne0 c_303
      refine lv_iconst (v := 1) hx hb dX3_isOf_23 (by decide) ?_
      refine lv_goto (tgt := 28) hx hb dX3_isOf_24 (by decide) ?_
      exact r_bool hx hb hr hlk hW rfl (by refine ⟨?_, rfl⟩; first | with_reducible rfl | (simp [bI, fitB, c_302, c_303]; done) | (simp_all [bI, fitB]; done)) (Nat.le_of_ble_eq_true rfl) (Nat.le_of_ble_eq_true rfl) dX3_isOf_28

set_option maxHeartbeats 4000000 in
set_option maxRecDepth 100000 in
theorem k_X3_isFigures (l : Launch) {E : gE} {y : Nat} {ad : Nat → Nat} {r t : sg} {g : gm} (hM : MR E y ad r t g) {i : Nat} {a : Int32} (ha : a = nI i) (hi : i < 60) : CM l yX3_isFigures cX3_isFigures 2 (some .boolean) ({ frames := 0, cells := 0, slots := 0, locals := 0 }) E [.ref (y), .int (a)] g (fun vv g' => vv = some (.int (bI (figB (r 0 i) (r 1 i)))) ∧ g' = g) := by
  refine CM.of (by decide) (Nat.le_of_ble_eq_true rfl) ?_
  intro p e s m below meth c ls hM hK hW hl
  obtain ⟨hx, hb, hr, hml, hown, hts, hlk, hnm⟩ := hM
  have hown : s.vm.findClass RX3 = some m.cls := hown
  have hl : lv_has ls 2 [(0, .ref (y)), (1, .int (a))] := hl
  refine lv_aload_n hx hb dX3_isFigures_0 rfl (lv_at hl 0 rfl) ?_
  refine m_get hx hb hts hown hK hW hM 1 (by decide) fl_RX3_7 (v := .ref (ad 0)) rfl dX3_isFigures_1 ?_
  refine lv_iload_n hx hb dX3_isFigures_4 rfl (lv_at hl 1 rfl) ?_
  refine m_iald 0 (j := i) (v := r 0 i) hx hb hK hW hM (by decide) rfl ha (show i < 60 from by omega) rfl dX3_isFigures_5 ?_
  refine lv_iconst (v := 3) hx hb dX3_isFigures_6 (by decide) ?_
  refine lv_icmp_le (tgt := 24) hx hb dX3_isFigures_7 (by decide) (fun c_304 => ?_) (fun c_304 => ?_)
  · skip
    have c_304 := Int32.not_lt.mpr c_304
    refine lv_iconst (v := 0) hx hb dX3_isFigures_24 (by decide) ?_
    exact r_bool hx hb hr hlk hW rfl (by refine ⟨?_, rfl⟩; first | with_reducible rfl | (simp [bI, figB, lt4, c_304]; done) | (simp_all [bI, figB, lt4]; done)) (Nat.le_of_ble_eq_true rfl) (Nat.le_of_ble_eq_true rfl) dX3_isFigures_25
  · skip
    have c_304 := Int32.not_le.mp c_304
    refine lv_aload_n hx hb dX3_isFigures_10 rfl (lv_at hl 0 rfl) ?_
    refine m_get hx hb hts hown hK hW hM 2 (by decide) fl_RX3_13 (v := .ref (ad 1)) rfl dX3_isFigures_11 ?_
    refine lv_iload_n hx hb dX3_isFigures_14 rfl (lv_at hl 1 rfl) ?_
    refine m_iald 1 (j := i) (v := r 1 i) hx hb hK hW hM (by decide) rfl ha (show i < 60 from by omega) rfl dX3_isFigures_15 ?_
    refine lv_iconst (v := 1) hx hb dX3_isFigures_16 (by decide) ?_
    refine lv_icmp_ne (tgt := 24) hx hb dX3_isFigures_17 (by decide) (fun c_305 => ?_) (fun c_305 => ?_)
    · skip
      refine lv_iconst (v := 0) hx hb dX3_isFigures_24 (by decide) ?_
      exact r_bool hx hb hr hlk hW rfl (by refine ⟨?_, rfl⟩; first | with_reducible rfl | (simp [bI, figB, lt4, c_304, c_305]; done) | (simp_all [bI, figB, lt4]; done)) (Nat.le_of_ble_eq_true rfl) (Nat.le_of_ble_eq_true rfl) dX3_isFigures_25
    · skip
      refine lv_iconst (v := 1) hx hb dX3_isFigures_20 (by decide) ?_
      refine lv_goto (tgt := 25) hx hb dX3_isFigures_21 (by decide) ?_
      exact r_bool hx hb hr hlk hW rfl (by refine ⟨?_, rfl⟩; first | with_reducible rfl | (simp [bI, figB, lt4, c_304, c_305]; done) | (simp_all [bI, figB, lt4]; done)) (Nat.le_of_ble_eq_true rfl) (Nat.le_of_ble_eq_true rfl) dX3_isFigures_25

set_option maxHeartbeats 4000000 in
set_option maxRecDepth 100000 in
theorem k_X3_isBundle (l : Launch) {E : gE} {y : Nat} {ad : Nat → Nat} {r t : sg} {g : gm} (hM : MR E y ad r t g) {i : Nat} {a : Int32} (ha : a = nI i) (hi : i < 60) : CM l yX3_isBundle cX3_isBundle 2 (some .boolean) ({ frames := 1, cells := 0, slots := 0, locals := 21 }) E [.ref (y), .int (a)] g (fun vv g' => vv = some (.int (bI (bunB r i))) ∧ g' = g) := by
  refine CM.of (by decide) (Nat.le_of_ble_eq_true rfl) ?_
  intro p e s m below meth c ls hM hK hW hl
  obtain ⟨hx, hb, hr, hml, hown, hts, hlk, hnm⟩ := hM
  have hown : s.vm.findClass RX3 = some m.cls := hown
  have hl : lv_has ls 2 [(0, .ref (y)), (1, .int (a))] := hl
  refine lv_aload_n hx hb dX3_isBundle_0 rfl (lv_at hl 0 rfl) ?_
  refine m_get hx hb hts hown hK hW hM 2 (by decide) fl_RX3_13 (v := .ref (ad 1)) rfl dX3_isBundle_1 ?_
  refine lv_iload_n hx hb dX3_isBundle_4 rfl (lv_at hl 1 rfl) ?_
  refine m_iald 1 (j := i) (v := r 1 i) hx hb hK hW hM (by decide) rfl ha (show i < 60 from by omega) rfl dX3_isBundle_5 ?_
  refine lv_if_le (tgt := 21) hx hb dX3_isBundle_6 (by decide) (fun c_306 => ?_) (fun c_306 => ?_)
  · skip
    have c_306 := Int32.not_lt.mpr c_306
    refine lv_iconst (v := 0) hx hb dX3_isBundle_21 (by decide) ?_
    exact r_bool hx hb hr hlk hW rfl (by refine ⟨?_, rfl⟩; first | with_reducible rfl | (simp [bI, bunB, c_306]; done) | (simp_all [bI, bunB]; done)) (Nat.le_of_ble_eq_true rfl) (Nat.le_of_ble_eq_true rfl) dX3_isBundle_22
  · skip
    have c_306 := Int32.not_le.mp c_306
    refine lv_aload_n hx hb dX3_isBundle_9 rfl (lv_at hl 0 rfl) ?_
    refine lv_iload_n hx hb dX3_isBundle_10 rfl (lv_at hl 1 rfl) ?_
    refine c_virt (own := RX3) (As := [.int (a)]) (rest := []) hx hb hml hown hts hK hW (k_X3_isFigures l hM (i := i) ha (by omega)) ml_RX3_86 im_yX3_isFigures se_yX3_isFigures in_RX3 cd_yX3_isFigures 1 (by decide +kernel) ⟨Nat.le_of_ble_eq_true rfl, Nat.le_of_ble_eq_true rfl⟩ hM.1 rfl rfl rfl hl.1 rfl (Nat.le_of_ble_eq_true rfl) dX3_isBundle_11 ⟨Nat.le_of_ble_eq_true rfl, Nat.le_of_ble_eq_true rfl⟩ (fun v g2 H1 locs1 hp hW hKT => ?_)
    obtain ⟨rfl, hg⟩ := hp
    rw [hg] at hW
    refine W.eq (g2 := F0 m 14 ls [.int (bI (figB (r 0 i) (r 1 i)))]) rfl ?_
    refine lv_if_ne (tgt := 21) hx hb dX3_isBundle_14 (by decide) (fun c_307 => ?_) (fun c_307 => ?_)
    · skip
      have c_307 := bI_ne0 c_307
      refine lv_iconst (v := 0) hx hb dX3_isBundle_21 (by decide) ?_
      exact r_bool hx hb hr hlk hW rfl (by refine ⟨?_, rfl⟩; first | with_reducible rfl | (simp [bI, bunB, c_306, c_307]; done) | (simp_all [bI, bunB]; done)) (Nat.le_of_ble_eq_true rfl) (Nat.le_of_ble_eq_true rfl) dX3_isBundle_22
    · skip
      have c_307 := (bI_eq0 _).mp c_307
      refine lv_iconst (v := 1) hx hb dX3_isBundle_17 (by decide) ?_
      refine lv_goto (tgt := 22) hx hb dX3_isBundle_18 (by decide) ?_
      exact r_bool hx hb hr hlk hW rfl (by refine ⟨?_, rfl⟩; first | with_reducible rfl | (simp [bI, bunB, c_306, c_307]; done) | (simp_all [bI, bunB]; done)) (Nat.le_of_ble_eq_true rfl) (Nat.le_of_ble_eq_true rfl) dX3_isBundle_22

set_option maxHeartbeats 4000000 in
set_option maxRecDepth 100000 in
theorem k_X3_holds (l : Launch) {E : gE} {y : Nat} {ad : Nat → Nat} {r t : sg} {g : gm} (hM : MR E y ad r t g) {i : Nat} {a : Int32} (ha : a = nI i) (hi : i < 60) {b : Int32} (hb1 : b = -1 ∨ (¬ b < 0 ∧ ix b < 60)) : CM l yX3_holds cX3_holds 3 (some .boolean) ({ frames := 2, cells := 0, slots := 0, locals := 44 }) E [.ref (y), .int (a), .int (b)] g (fun vv g' => vv = some (.int (bI (holdB r i b))) ∧ g' = g) := by
  refine CM.of (by decide) (Nat.le_of_ble_eq_true rfl) ?_
  intro p e s m below meth c ls hM hK hW hl
  obtain ⟨hx, hb, hr, hml, hown, hts, hlk, hnm⟩ := hM
  have hown : s.vm.findClass RX3 = some m.cls := hown
  have hl : lv_has ls 3 [(0, .ref (y)), (1, .int (a)), (2, .int (b))] := hl
  refine lv_iload_n hx hb dX3_holds_0 rfl (lv_at hl 2 rfl) ?_
  refine lv_iconst (v := -1) hx hb dX3_holds_1 (by decide) ?_
  refine lv_icmp_eq (tgt := 27) hx hb dX3_holds_2 (by decide) (fun c_308 => ?_) (fun c_308 => ?_)
  · skip
    refine lv_iconst (v := 1) hx hb dX3_holds_27 (by decide) ?_
    refine lv_goto (tgt := 32) hx hb dX3_holds_28 (by decide) ?_
    exact r_bool hx hb hr hlk hW rfl (by refine ⟨?_, rfl⟩; first | with_reducible rfl | (simp [bI, holdB, c_308]; done) | (simp_all [bI, holdB]; done)) (Nat.le_of_ble_eq_true rfl) (Nat.le_of_ble_eq_true rfl) dX3_holds_32
  · skip
    have hq := hb1.resolve_left c_308
    have hq2 := hq.2
    refine lv_aload_n hx hb dX3_holds_5 rfl (lv_at hl 0 rfl) ?_
    refine lv_iload_n hx hb dX3_holds_6 rfl (lv_at hl 2 rfl) ?_
    refine lv_aload_n hx hb dX3_holds_7 rfl (lv_at hl 0 rfl) ?_
    refine m_get hx hb hts hown hK hW hM 1 (by decide) fl_RX3_7 (v := .ref (ad 0)) rfl dX3_holds_8 ?_
    refine lv_iload_n hx hb dX3_holds_11 rfl (lv_at hl 1 rfl) ?_
    refine m_iald 0 (j := i) (v := r 0 i) hx hb hK hW hM (by decide) rfl ha (show i < 60 from by omega) rfl dX3_holds_12 ?_
    refine lv_aload_n hx hb dX3_holds_13 rfl (lv_at hl 0 rfl) ?_
    refine m_get hx hb hts hown hK hW hM 2 (by decide) fl_RX3_13 (v := .ref (ad 1)) rfl dX3_holds_14 ?_
    refine lv_iload_n hx hb dX3_holds_17 rfl (lv_at hl 1 rfl) ?_
    refine m_iald 1 (j := i) (v := r 1 i) hx hb hK hW hM (by decide) rfl ha (show i < 60 from by omega) rfl dX3_holds_18 ?_
    refine lv_iconst (v := 1) hx hb dX3_holds_19 (by decide) ?_
    refine lv_isub hx hb dX3_holds_20 ?_
    refine c_virt (own := RX3) (As := [.int (b), .int (r 0 i), .int ((r 1 i) - (1))]) (rest := []) hx hb hml hown hts hK hW (k_X3_isOf l hM (i := ix b) ((nI_ix hq.1).symm) (by omega) _ _) ml_RX3_90 im_yX3_isOf se_yX3_isOf in_RX3 cd_yX3_isOf 3 (by decide +kernel) ⟨Nat.le_of_ble_eq_true rfl, Nat.le_of_ble_eq_true rfl⟩ hM.1 rfl rfl rfl hl.1 rfl (Nat.le_of_ble_eq_true rfl) dX3_holds_21 ⟨Nat.le_of_ble_eq_true rfl, Nat.le_of_ble_eq_true rfl⟩ (fun v g2 H1 locs1 hp hW hKT => ?_)
    obtain ⟨rfl, hg⟩ := hp
    rw [hg] at hW
    refine W.eq (g2 := F0 m 24 ls [.int (bI (fitB r (ix b) (r 0 i) ((r 1 i) - (1))))]) rfl ?_
    refine lv_if_eq (tgt := 31) hx hb dX3_holds_24 (by decide) (fun c_309 => ?_) (fun c_309 => ?_)
    · skip
      have c_309 := (bI_eq0 _).mp c_309
      refine lv_iconst (v := 0) hx hb dX3_holds_31 (by decide) ?_
      exact r_bool hx hb hr hlk hW rfl (by refine ⟨?_, rfl⟩; first | with_reducible rfl | (simp [bI, holdB, c_308, c_309]; done) | (simp_all [bI, holdB]; done)) (Nat.le_of_ble_eq_true rfl) (Nat.le_of_ble_eq_true rfl) dX3_holds_32
    · skip
      have c_309 := bI_ne0 c_309
      refine lv_iconst (v := 1) hx hb dX3_holds_27 (by decide) ?_
      refine lv_goto (tgt := 32) hx hb dX3_holds_28 (by decide) ?_
      exact r_bool hx hb hr hlk hW rfl (by refine ⟨?_, rfl⟩; first | with_reducible rfl | (simp [bI, holdB, c_308, c_309]; done) | (simp_all [bI, holdB]; done)) (Nat.le_of_ble_eq_true rfl) (Nat.le_of_ble_eq_true rfl) dX3_holds_32

set_option maxHeartbeats 4000000 in
set_option maxRecDepth 100000 in
theorem k_X3_cut (l : Launch) {E : gE} {g : gm} (a b : Int32) : CM l yX3_cut cX3_cut 2 (some .int) ({ frames := 0, cells := 0, slots := 0, locals := 0 }) E [.int (a), .int (b)] g (fun vv g' => vv = some (.int (lowI a b)) ∧ g' = g) := by
  refine CM.of (by decide) (Nat.le_of_ble_eq_true rfl) ?_
  intro p e s m below meth c ls hM hK hW hl
  obtain ⟨hx, hb, hr, hml, hown, hts, hlk, hnm⟩ := hM
  have hown : s.vm.findClass RX3 = some m.cls := hown
  have hl : lv_has ls 2 [(0, .int (a)), (1, .int (b))] := hl
  refine lv_iload_n hx hb dX3_cut_0 rfl (lv_at hl 0 rfl) ?_
  refine lv_iconst (v := 4) hx hb dX3_cut_1 (by decide) ?_
  refine lv_icmp_ne (tgt := 10) hx hb dX3_cut_2 (by decide) (fun c_310 => ?_) (fun c_310 => ?_)
  · skip
    refine lv_iload_n hx hb dX3_cut_10 rfl (lv_at hl 1 rfl) ?_
    refine lv_ldc hx hb hown (hts _ co_RX3_106) dX3_cut_11 ?_
    refine lv_iand hx hb dX3_cut_13 ?_
    exact r_int hx hb hr hlk hW (by refine ⟨?_, rfl⟩; first | with_reducible rfl | (simp [bI, lowI, cut_e, c_310]; done) | (simp_all [bI, lowI, cut_e]; done)) (Nat.le_of_ble_eq_true rfl) (Nat.le_of_ble_eq_true rfl) dX3_cut_14
  · skip
    refine lv_iload_n hx hb dX3_cut_5 rfl (lv_at hl 1 rfl) ?_
    refine lv_i2b hx hb dX3_cut_6 rfl ?_
    refine lv_goto (tgt := 14) hx hb dX3_cut_7 (by decide) ?_
    exact r_int hx hb hr hlk hW (by refine ⟨?_, rfl⟩; first | with_reducible rfl | (simp [bI, lowI, cut_e, c_310]; done) | (simp_all [bI, lowI, cut_e]; done)) (Nat.le_of_ble_eq_true rfl) (Nat.le_of_ble_eq_true rfl) dX3_cut_14

set_option maxHeartbeats 4000000 in
set_option maxRecDepth 100000 in
theorem k_X3_isView (l : Launch) {E : gE} {g : gm} (a b : Int32) : CM l yX3_isView cX3_isView 2 (some .boolean) ({ frames := 1, cells := 0, slots := 0, locals := 22 }) E [.int (a), .int (b)] g (fun vv g' => vv = some (.int (bI (kindB a b))) ∧ g' = g) := by
  refine CM.of (by decide) (Nat.le_of_ble_eq_true rfl) ?_
  intro p e s m below meth c ls hM hK hW hl
  obtain ⟨hx, hb, hr, hml, hown, hts, hlk, hnm⟩ := hM
  have hown : s.vm.findClass RX3 = some m.cls := hown
  have hl : lv_has ls 2 [(0, .int (a)), (1, .int (b))] := hl
  refine lv_iload_n hx hb dX3_isView_0 rfl (lv_at hl 0 rfl) ?_
  refine lv_iconst (v := 0) hx hb dX3_isView_1 (by decide) ?_
  refine lv_iconst (v := 3) hx hb dX3_isView_2 (by decide) ?_
  refine c_stat (own := RX3) (As := [.int (a), .int (0), .int (3)]) (rest := []) hx hb hml hown hts hK hW (k_X3_in l _ _ _) ml_RX3_78 st_yX3_in in_RX3 cd_yX3_in 3 (by decide +kernel) ⟨Nat.le_of_ble_eq_true rfl, Nat.le_of_ble_eq_true rfl⟩ rfl hl.1 rfl (Nat.le_of_ble_eq_true rfl) dX3_isView_3 ⟨Nat.le_of_ble_eq_true rfl, Nat.le_of_ble_eq_true rfl⟩ (fun v g2 H1 locs1 hp hW hKT => ?_)
  obtain ⟨rfl, hg⟩ := hp
  rw [hg] at hW
  refine W.eq (g2 := F0 m 6 ls [.int (bI (mIn (a) (0) (3)))]) rfl ?_
  refine lv_if_eq (tgt := 18) hx hb dX3_isView_6 (by decide) (fun c_311 => ?_) (fun c_311 => ?_)
  · skip
    have c_311 := (bI_eq0 _).mp c_311
    refine lv_iload_n hx hb dX3_isView_18 rfl (lv_at hl 0 rfl) ?_
    refine lv_iconst (v := 4) hx hb dX3_isView_19 (by decide) ?_
    refine lv_iconst (v := 5) hx hb dX3_isView_20 (by decide) ?_
    refine c_stat (own := RX3) (As := [.int (a), .int (4), .int (5)]) (rest := []) hx hb hml hown hts hK hW (k_X3_in l _ _ _) ml_RX3_78 st_yX3_in in_RX3 cd_yX3_in 3 (by decide +kernel) ⟨Nat.le_of_ble_eq_true rfl, Nat.le_of_ble_eq_true rfl⟩ rfl hl.1 rfl (Nat.le_of_ble_eq_true rfl) dX3_isView_21 ⟨Nat.le_of_ble_eq_true rfl, Nat.le_of_ble_eq_true rfl⟩ (fun v g2 H1 locs1 hp hW hKT => ?_)
    obtain ⟨rfl, hg⟩ := hp
    rw [hg] at hW
    refine W.eq (g2 := F0 m 24 ls [.int (bI (mIn (a) (4) (5)))]) rfl ?_
    refine lv_if_eq (tgt := 40) hx hb dX3_isView_24 (by decide) (fun c_312 => ?_) (fun c_312 => ?_)
    · skip
      have c_312 := (bI_eq0 _).mp c_312
      refine lv_iconst (v := 0) hx hb dX3_isView_40 (by decide) ?_
      exact r_bool hx hb hr hlk hW rfl (by refine ⟨?_, rfl⟩; rw [← view_kind]; simp [bI, c_311, c_312]) (Nat.le_of_ble_eq_true rfl) (Nat.le_of_ble_eq_true rfl) dX3_isView_41
    · skip
      have c_312 := bI_ne0 c_312
      refine lv_iload_n hx hb dX3_isView_27 rfl (lv_at hl 1 rfl) ?_
      refine lv_iconst (v := 1) hx hb dX3_isView_28 (by decide) ?_
      refine lv_iconst (v := 3) hx hb dX3_isView_29 (by decide) ?_
      refine c_stat (own := RX3) (As := [.int (b), .int (1), .int (3)]) (rest := []) hx hb hml hown hts hK hW (k_X3_in l _ _ _) ml_RX3_78 st_yX3_in in_RX3 cd_yX3_in 3 (by decide +kernel) ⟨Nat.le_of_ble_eq_true rfl, Nat.le_of_ble_eq_true rfl⟩ rfl hl.1 rfl (Nat.le_of_ble_eq_true rfl) dX3_isView_30 ⟨Nat.le_of_ble_eq_true rfl, Nat.le_of_ble_eq_true rfl⟩ (fun v g2 H1 locs1 hp hW hKT => ?_)
      obtain ⟨rfl, hg⟩ := hp
      rw [hg] at hW
      refine W.eq (g2 := F0 m 33 ls [.int (bI (mIn (b) (1) (3)))]) rfl ?_
      refine lv_if_eq (tgt := 40) hx hb dX3_isView_33 (by decide) (fun c_313 => ?_) (fun c_313 => ?_)
      · skip
        have c_313 := (bI_eq0 _).mp c_313
        refine lv_iconst (v := 0) hx hb dX3_isView_40 (by decide) ?_
        exact r_bool hx hb hr hlk hW rfl (by refine ⟨?_, rfl⟩; rw [← view_kind]; simp [bI, c_311, c_312, c_313]) (Nat.le_of_ble_eq_true rfl) (Nat.le_of_ble_eq_true rfl) dX3_isView_41
      · skip
        have c_313 := bI_ne0 c_313
        refine lv_iconst (v := 1) hx hb dX3_isView_36 (by decide) ?_
        refine lv_goto (tgt := 41) hx hb dX3_isView_37 (by decide) ?_
        exact r_bool hx hb hr hlk hW rfl (by refine ⟨?_, rfl⟩; rw [← view_kind]; simp [bI, c_311, c_312, c_313]) (Nat.le_of_ble_eq_true rfl) (Nat.le_of_ble_eq_true rfl) dX3_isView_41
  · skip
    have c_311 := bI_ne0 c_311
    refine lv_iload_n hx hb dX3_isView_9 rfl (lv_at hl 1 rfl) ?_
    refine lv_iconst (v := 0) hx hb dX3_isView_10 (by decide) ?_
    refine lv_iconst (v := 3) hx hb dX3_isView_11 (by decide) ?_
    refine c_stat (own := RX3) (As := [.int (b), .int (0), .int (3)]) (rest := []) hx hb hml hown hts hK hW (k_X3_in l _ _ _) ml_RX3_78 st_yX3_in in_RX3 cd_yX3_in 3 (by decide +kernel) ⟨Nat.le_of_ble_eq_true rfl, Nat.le_of_ble_eq_true rfl⟩ rfl hl.1 rfl (Nat.le_of_ble_eq_true rfl) dX3_isView_12 ⟨Nat.le_of_ble_eq_true rfl, Nat.le_of_ble_eq_true rfl⟩ (fun v g2 H1 locs1 hp hW hKT => ?_)
    obtain ⟨rfl, hg⟩ := hp
    rw [hg] at hW
    refine W.eq (g2 := F0 m 15 ls [.int (bI (mIn (b) (0) (3)))]) rfl ?_
    refine lv_if_ne (tgt := 36) hx hb dX3_isView_15 (by decide) (fun c_314 => ?_) (fun c_314 => ?_)
    · skip
      have c_314 := bI_ne0 c_314
      refine lv_iconst (v := 1) hx hb dX3_isView_36 (by decide) ?_
      refine lv_goto (tgt := 41) hx hb dX3_isView_37 (by decide) ?_
      exact r_bool hx hb hr hlk hW rfl (by refine ⟨?_, rfl⟩; rw [← view_kind]; simp [bI, c_311, c_314]) (Nat.le_of_ble_eq_true rfl) (Nat.le_of_ble_eq_true rfl) dX3_isView_41
    · skip
      have c_314 := (bI_eq0 _).mp c_314
      refine lv_iload_n hx hb dX3_isView_18 rfl (lv_at hl 0 rfl) ?_
      refine lv_iconst (v := 4) hx hb dX3_isView_19 (by decide) ?_
      refine lv_iconst (v := 5) hx hb dX3_isView_20 (by decide) ?_
      refine c_stat (own := RX3) (As := [.int (a), .int (4), .int (5)]) (rest := []) hx hb hml hown hts hK hW (k_X3_in l _ _ _) ml_RX3_78 st_yX3_in in_RX3 cd_yX3_in 3 (by decide +kernel) ⟨Nat.le_of_ble_eq_true rfl, Nat.le_of_ble_eq_true rfl⟩ rfl hl.1 rfl (Nat.le_of_ble_eq_true rfl) dX3_isView_21 ⟨Nat.le_of_ble_eq_true rfl, Nat.le_of_ble_eq_true rfl⟩ (fun v g2 H1 locs1 hp hW hKT => ?_)
      obtain ⟨rfl, hg⟩ := hp
      rw [hg] at hW
      refine W.eq (g2 := F0 m 24 ls [.int (bI (mIn (a) (4) (5)))]) rfl ?_
      refine lv_if_eq (tgt := 40) hx hb dX3_isView_24 (by decide) (fun c_315 => ?_) (fun c_315 => ?_)
      · skip
        have c_315 := (bI_eq0 _).mp c_315
        refine lv_iconst (v := 0) hx hb dX3_isView_40 (by decide) ?_
        exact r_bool hx hb hr hlk hW rfl (by refine ⟨?_, rfl⟩; rw [← view_kind]; simp [bI, c_311, c_314, c_315]) (Nat.le_of_ble_eq_true rfl) (Nat.le_of_ble_eq_true rfl) dX3_isView_41
      · skip
        have c_315 := bI_ne0 c_315
        refine lv_iload_n hx hb dX3_isView_27 rfl (lv_at hl 1 rfl) ?_
        refine lv_iconst (v := 1) hx hb dX3_isView_28 (by decide) ?_
        refine lv_iconst (v := 3) hx hb dX3_isView_29 (by decide) ?_
        refine c_stat (own := RX3) (As := [.int (b), .int (1), .int (3)]) (rest := []) hx hb hml hown hts hK hW (k_X3_in l _ _ _) ml_RX3_78 st_yX3_in in_RX3 cd_yX3_in 3 (by decide +kernel) ⟨Nat.le_of_ble_eq_true rfl, Nat.le_of_ble_eq_true rfl⟩ rfl hl.1 rfl (Nat.le_of_ble_eq_true rfl) dX3_isView_30 ⟨Nat.le_of_ble_eq_true rfl, Nat.le_of_ble_eq_true rfl⟩ (fun v g2 H1 locs1 hp hW hKT => ?_)
        obtain ⟨rfl, hg⟩ := hp
        rw [hg] at hW
        refine W.eq (g2 := F0 m 33 ls [.int (bI (mIn (b) (1) (3)))]) rfl ?_
        refine lv_if_eq (tgt := 40) hx hb dX3_isView_33 (by decide) (fun c_316 => ?_) (fun c_316 => ?_)
        · skip
          have c_316 := (bI_eq0 _).mp c_316
          refine lv_iconst (v := 0) hx hb dX3_isView_40 (by decide) ?_
          exact r_bool hx hb hr hlk hW rfl (by refine ⟨?_, rfl⟩; rw [← view_kind]; simp [bI, c_311, c_314, c_315, c_316]) (Nat.le_of_ble_eq_true rfl) (Nat.le_of_ble_eq_true rfl) dX3_isView_41
        · skip
          have c_316 := bI_ne0 c_316
          refine lv_iconst (v := 1) hx hb dX3_isView_36 (by decide) ?_
          refine lv_goto (tgt := 41) hx hb dX3_isView_37 (by decide) ?_
          exact r_bool hx hb hr hlk hW rfl (by refine ⟨?_, rfl⟩; rw [← view_kind]; simp [bI, c_311, c_314, c_315, c_316]) (Nat.le_of_ble_eq_true rfl) (Nat.le_of_ble_eq_true rfl) dX3_isView_41

set_option maxHeartbeats 4000000 in
set_option maxRecDepth 100000 in
theorem k_X3_isCounter (l : Launch) {E : gE} {y : Nat} {ad : Nat → Nat} {r t : sg} {g : gm} (hM : MR E y ad r t g) (a : Int32) : CM l yX3_isCounter cX3_isCounter 2 (some .boolean) ({ frames := 1, cells := 0, slots := 0, locals := 22 }) E [.ref (y), .int (a)] g (fun vv g' => vv = some (.int (bI (isCb r a))) ∧ g' = g) := by
  refine CM.of (by decide) (Nat.le_of_ble_eq_true rfl) ?_
  intro p e s m below meth c ls hM hK hW hl
  obtain ⟨hx, hb, hr, hml, hown, hts, hlk, hnm⟩ := hM
  have hown : s.vm.findClass RX3 = some m.cls := hown
  have hl : lv_has ls 2 [(0, .ref (y)), (1, .int (a))] := hl
  refine lv_iload_n hx hb dX3_isCounter_0 rfl (lv_at hl 1 rfl) ?_
  refine lv_iconst (v := 0) hx hb dX3_isCounter_1 (by decide) ?_
  refine lv_bipush (v := 7) hx hb dX3_isCounter_2 (by decide) ?_
  refine c_stat (own := RX3) (As := [.int (a), .int (0), .int (7)]) (rest := []) hx hb hml hown hts hK hW (k_X3_in l _ _ _) ml_RX3_78 st_yX3_in in_RX3 cd_yX3_in 3 (by decide +kernel) ⟨Nat.le_of_ble_eq_true rfl, Nat.le_of_ble_eq_true rfl⟩ rfl hl.1 rfl (Nat.le_of_ble_eq_true rfl) dX3_isCounter_4 ⟨Nat.le_of_ble_eq_true rfl, Nat.le_of_ble_eq_true rfl⟩ (fun v g2 H1 locs1 hp hW hKT => ?_)
  obtain ⟨rfl, hg⟩ := hp
  rw [hg] at hW
  refine W.eq (g2 := F0 m 7 ls [.int (bI (mIn (a) (0) (7)))]) rfl ?_
  refine lv_if_eq (tgt := 23) hx hb dX3_isCounter_7 (by decide) (fun c_317 => ?_) (fun c_317 => ?_)
  · skip
    have c_317 := (bI_eq0 _).mp c_317
    refine lv_iconst (v := 0) hx hb dX3_isCounter_23 (by decide) ?_
    exact r_bool hx hb hr hlk hW rfl (by refine ⟨?_, rfl⟩; have hh : isCb r a = false := (by cases hq : isCb r a with | false => rfl | true => exact absurd (nI_ix (isCb_nn hq)).symm (in_f (n := 7) (by decide) c_317 (by have := isCb_lt hq; omega))); rw [hh]; rfl) (Nat.le_of_ble_eq_true rfl) (Nat.le_of_ble_eq_true rfl) dX3_isCounter_24
  · skip
    have c_317 := bI_ne0 c_317
    obtain ⟨j, hj, rfl⟩ := in_t (n := 7) (by decide) c_317
    have hl : lv_has ls 2 [(0, .ref y), (1, .int (nI j))] := hl
    refine lv_aload_n hx hb dX3_isCounter_10 rfl (lv_at hl 0 rfl) ?_
    refine m_get hx hb hts hown hK hW hM 6 (by decide) fl_RX3_25 (v := .ref (ad 5)) rfl dX3_isCounter_11 ?_
    refine lv_iload_n hx hb dX3_isCounter_14 rfl (lv_at hl 1 rfl) ?_
    refine m_zald 5 (j := j) (v := r 5 j) hx hb hK hW hM (by decide) rfl rfl (show j < 8 from by omega) rfl dX3_isCounter_15 ?_
    refine lv_if_eq (tgt := 23) hx hb dX3_isCounter_16 (by decide) (fun c_318 => ?_) (fun c_318 => ?_)
    · skip
      refine lv_iconst (v := 0) hx hb dX3_isCounter_23 (by decide) ?_
      exact r_bool hx hb hr hlk hW rfl (by refine ⟨?_, rfl⟩; rw [isCb_N (by omega)]; simp [bI, c_318]) (Nat.le_of_ble_eq_true rfl) (Nat.le_of_ble_eq_true rfl) dX3_isCounter_24
    · skip
      refine lv_iconst (v := 1) hx hb dX3_isCounter_19 (by decide) ?_
      refine lv_goto (tgt := 24) hx hb dX3_isCounter_20 (by decide) ?_
      exact r_bool hx hb hr hlk hW rfl (by refine ⟨?_, rfl⟩; rw [isCb_N (by omega)]; simp [bI, c_318]) (Nat.le_of_ble_eq_true rfl) (Nat.le_of_ble_eq_true rfl) dX3_isCounter_24
end
section
theorem nI_lit (n : Nat) : nI n = Int32.ofNat n := rfl

set_option maxHeartbeats 4000000 in
set_option maxRecDepth 100000 in
theorem k_X3_placed (l : Launch) {E : gE} {y : Nat} {ad : Nat → Nat} {r t : sg} {g : gm} (hM : MR E y ad r t g) (hIV : IV r) (a b : Int32) : CM l yX3_placed cX3_placed 3 (some .int) ({ frames := 2, cells := 0, slots := 0, locals := 43 }) E [.ref (y), .int (a), .int (b)] g (fun vv g' => vv = some (.int (Fplaced r a b)) ∧ g' = g) := by
  refine CM.of (by decide) (Nat.le_of_ble_eq_true rfl) ?_
  intro p e s m below meth c ls hM hK hW hl
  obtain ⟨hx, hb, hr, hml, hown, hts, hlk, hnm⟩ := hM
  have hown : s.vm.findClass RX3 = some m.cls := hown
  have hl : lv_has ls 3 [(0, .ref (y)), (1, .int (a)), (2, .int (b))] := hl
  refine lv_aload_n hx hb dX3_placed_0 rfl (lv_at hl 0 rfl) ?_
  refine lv_iload_n hx hb dX3_placed_1 rfl (lv_at hl 1 rfl) ?_
  refine c_virt (own := RX3) (As := [.int (a)]) (rest := []) hx hb hml hown hts hK hW (k_X3_isMessage l hM hIV.1 hIV.2.1 _) ml_RX3_97 im_yX3_isMessage se_yX3_isMessage in_RX3 cd_yX3_isMessage 1 (by decide +kernel) ⟨Nat.le_of_ble_eq_true rfl, Nat.le_of_ble_eq_true rfl⟩ hM.1 rfl rfl rfl hl.1 rfl (Nat.le_of_ble_eq_true rfl) dX3_placed_2 ⟨Nat.le_of_ble_eq_true rfl, Nat.le_of_ble_eq_true rfl⟩ (fun v g2 H1 locs1 hp hW hKT => ?_)
  obtain ⟨rfl, hg⟩ := hp
  rw [hg] at hW
  refine W.eq (g2 := F0 m 5 ls [.int (bI (isMb r (a)))]) rfl ?_
  refine lv_if_ne (tgt := 11) hx hb dX3_placed_5 (by decide) (fun c_319 => ?_) (fun c_319 => ?_)
  · skip
    have c_319 := bI_ne0 c_319
    have hb_320 : ix (a) < 60 := by have := isMb_lt c_319; have := hIV.2.1; omega
    have hm := hIV.2.2.1 _ (isMb_lt c_319)
    refine lv_aload_n hx hb dX3_placed_11 rfl (lv_at hl 0 rfl) ?_
    refine lv_iload_n hx hb dX3_placed_12 rfl (lv_at hl 1 rfl) ?_
    refine c_virt (own := RX3) (As := [.int (a)]) (rest := []) hx hb hml hown hts hK hW (k_X3_isBundle l hM (i := ix (a)) ((nI_ix (isMb_nn c_319)).symm) (by omega)) ml_RX3_100 im_yX3_isBundle se_yX3_isBundle in_RX3 cd_yX3_isBundle 1 (by decide +kernel) ⟨Nat.le_of_ble_eq_true rfl, Nat.le_of_ble_eq_true rfl⟩ hM.1 rfl rfl rfl hl.1 rfl (Nat.le_of_ble_eq_true rfl) dX3_placed_13 ⟨Nat.le_of_ble_eq_true rfl, Nat.le_of_ble_eq_true rfl⟩ (fun v g2 H1 locs1 hp hW hKT => ?_)
    obtain ⟨rfl, hg⟩ := hp
    rw [hg] at hW
    refine W.eq (g2 := F0 m 16 ls [.int (bI (bunB r (ix (a))))]) rfl ?_
    refine lv_if_eq (tgt := 49) hx hb dX3_placed_16 (by decide) (fun c_321 => ?_) (fun c_321 => ?_)
    · skip
      have c_321 := (bI_eq0 _).mp c_321
      refine lv_bipush (v := -5) hx hb dX3_placed_49 (by decide) ?_
      exact r_int hx hb hr hlk hW (by refine ⟨?_, rfl⟩; simp only [Fplaced, ← place_eq hm]; simp [c_319, c_321]) (Nat.le_of_ble_eq_true rfl) (Nat.le_of_ble_eq_true rfl) dX3_placed_51
    · skip
      have c_321 := bI_ne0 c_321
      refine lv_iload_n hx hb dX3_placed_19 rfl (lv_at hl 2 rfl) ?_
      refine lv_iconst (v := 0) hx hb dX3_placed_20 (by decide) ?_
      refine lv_aload_n hx hb dX3_placed_21 rfl (lv_at hl 0 rfl) ?_
      refine m_get hx hb hts hown hK hW hM 4 (by decide) fl_RX3_19 (v := .ref (ad 3)) rfl dX3_placed_22 ?_
      refine lv_iload_n hx hb dX3_placed_25 rfl (lv_at hl 1 rfl) ?_
      refine m_iald 3 (j := ix (a)) (v := r 3 (ix (a))) hx hb hK hW hM (by decide) rfl ((nI_ix (isMb_nn c_319)).symm) (show ix (a) < 60 from by omega) rfl dX3_placed_26 ?_
      refine lv_iconst (v := 1) hx hb dX3_placed_27 (by decide) ?_
      refine lv_isub hx hb dX3_placed_28 ?_
      refine c_stat (own := RX3) (As := [.int (b), .int (0), .int ((r 3 (ix (a))) - (1))]) (rest := []) hx hb hml hown hts hK hW (k_X3_in l _ _ _) ml_RX3_78 st_yX3_in in_RX3 cd_yX3_in 3 (by decide +kernel) ⟨Nat.le_of_ble_eq_true rfl, Nat.le_of_ble_eq_true rfl⟩ rfl hl.1 rfl (Nat.le_of_ble_eq_true rfl) dX3_placed_29 ⟨Nat.le_of_ble_eq_true rfl, Nat.le_of_ble_eq_true rfl⟩ (fun v g2 H1 locs1 hp hW hKT => ?_)
      obtain ⟨rfl, hg⟩ := hp
      rw [hg] at hW
      refine W.eq (g2 := F0 m 32 ls [.int (bI (mIn (b) (0) ((r 3 (ix (a))) - (1))))]) rfl ?_
      refine lv_if_eq (tgt := 49) hx hb dX3_placed_32 (by decide) (fun c_322 => ?_) (fun c_322 => ?_)
      · skip
        have c_322 := (bI_eq0 _).mp c_322
        refine lv_bipush (v := -5) hx hb dX3_placed_49 (by decide) ?_
        exact r_int hx hb hr hlk hW (by refine ⟨?_, rfl⟩; simp only [Fplaced, ← place_eq hm]; simp [c_319, c_321, c_322]) (Nat.le_of_ble_eq_true rfl) (Nat.le_of_ble_eq_true rfl) dX3_placed_51
      · skip
        have c_322 := bI_ne0 c_322
        have hb_323 := inB_lt (by rw [← mIn_in hm.2.2.1 hm.2.2.2.1]; exact c_322) hm.2.2.1
        have hb_324 : ix (b) < 8 := Nat.lt_of_lt_of_le hb_323.2 hm.2.2.2.1
        refine lv_aload_n hx hb dX3_placed_35 rfl (lv_at hl 0 rfl) ?_
        refine m_get hx hb hts hown hK hW hM 5 (by decide) fl_RX3_22 (v := .ref (ad 4)) rfl dX3_placed_36 ?_
        refine lv_bipush (v := 8) hx hb dX3_placed_39 (by decide) ?_
        refine lv_iload_n hx hb dX3_placed_41 rfl (lv_at hl 1 rfl) ?_
        refine lv_imul hx hb dX3_placed_42 ?_
        refine lv_iload_n hx hb dX3_placed_43 rfl (lv_at hl 2 rfl) ?_
        refine lv_iadd hx hb dX3_placed_44 ?_
        refine m_iald 4 (j := 8 * (ix (a)) + (ix (b))) (v := r 4 (8 * (ix (a)) + (ix (b)))) hx hb hK hW hM (by decide) rfl ((it_e ((nI_ix (isMb_nn c_319)).symm) ((nI_ix hb_323.1).symm))) (show 8 * (ix (a)) + (ix (b)) < 480 from by omega) rfl dX3_placed_45 ?_
        refine lv_goto (tgt := 51) hx hb dX3_placed_46 (by decide) ?_
        exact r_int hx hb hr hlk hW (by refine ⟨?_, rfl⟩; simp only [Fplaced, ← place_eq hm]; simp [c_319, c_321, c_322]) (Nat.le_of_ble_eq_true rfl) (Nat.le_of_ble_eq_true rfl) dX3_placed_51
  · skip
    have c_319 := (bI_eq0 _).mp c_319
    refine lv_bipush (v := -2) hx hb dX3_placed_8 (by decide) ?_
    exact r_int hx hb hr hlk hW (by refine ⟨?_, rfl⟩; simp only [Fplaced]; simp [c_319]) (Nat.le_of_ble_eq_true rfl) (Nat.le_of_ble_eq_true rfl) dX3_placed_10

set_option maxHeartbeats 4000000 in
set_option maxRecDepth 100000 in
theorem k_X3_number (l : Launch) {E : gE} {y : Nat} {ad : Nat → Nat} {r t : sg} {g : gm} (hM : MR E y ad r t g) (hIV : IV r) (a b : Int32) : CM l yX3_number cX3_number 3 (some .int) ({ frames := 2, cells := 0, slots := 0, locals := 43 }) E [.ref (y), .int (a), .int (b)] g (fun vv g' => vv = some (.int (Fnumber r a b)) ∧ g' = g) := by
  refine CM.of (by decide) (Nat.le_of_ble_eq_true rfl) ?_
  intro p e s m below meth c ls hM hK hW hl
  obtain ⟨hx, hb, hr, hml, hown, hts, hlk, hnm⟩ := hM
  have hown : s.vm.findClass RX3 = some m.cls := hown
  have hl : lv_has ls 3 [(0, .ref (y)), (1, .int (a)), (2, .int (b))] := hl
  refine lv_aload_n hx hb dX3_number_0 rfl (lv_at hl 0 rfl) ?_
  refine lv_iload_n hx hb dX3_number_1 rfl (lv_at hl 1 rfl) ?_
  refine c_virt (own := RX3) (As := [.int (a)]) (rest := []) hx hb hml hown hts hK hW (k_X3_isMessage l hM hIV.1 hIV.2.1 _) ml_RX3_97 im_yX3_isMessage se_yX3_isMessage in_RX3 cd_yX3_isMessage 1 (by decide +kernel) ⟨Nat.le_of_ble_eq_true rfl, Nat.le_of_ble_eq_true rfl⟩ hM.1 rfl rfl rfl hl.1 rfl (Nat.le_of_ble_eq_true rfl) dX3_number_2 ⟨Nat.le_of_ble_eq_true rfl, Nat.le_of_ble_eq_true rfl⟩ (fun v g2 H1 locs1 hp hW hKT => ?_)
  obtain ⟨rfl, hg⟩ := hp
  rw [hg] at hW
  refine W.eq (g2 := F0 m 5 ls [.int (bI (isMb r (a)))]) rfl ?_
  refine lv_if_ne (tgt := 10) hx hb dX3_number_5 (by decide) (fun c_325 => ?_) (fun c_325 => ?_)
  · skip
    have c_325 := bI_ne0 c_325
    have hb_326 : ix (a) < 60 := by have := isMb_lt c_325; have := hIV.2.1; omega
    have hm := hIV.2.2.1 _ (isMb_lt c_325)
    refine lv_aload_n hx hb dX3_number_10 rfl (lv_at hl 0 rfl) ?_
    refine m_get hx hb hts hown hK hW hM 2 (by decide) fl_RX3_13 (v := .ref (ad 1)) rfl dX3_number_11 ?_
    refine lv_iload_n hx hb dX3_number_14 rfl (lv_at hl 1 rfl) ?_
    refine m_iald 1 (j := ix (a)) (v := r 1 (ix (a))) hx hb hK hW hM (by decide) rfl ((nI_ix (isMb_nn c_325)).symm) (show ix (a) < 60 from by omega) rfl dX3_number_15 ?_
    refine lv_if_ne (tgt := 35) hx hb dX3_number_16 (by decide) (fun c_327 => ?_) (fun c_327 => ?_)
    · skip
      refine lv_aload_n hx hb dX3_number_35 rfl (lv_at hl 0 rfl) ?_
      refine lv_iload_n hx hb dX3_number_36 rfl (lv_at hl 1 rfl) ?_
      refine c_virt (own := RX3) (As := [.int (a)]) (rest := []) hx hb hml hown hts hK hW (k_X3_isFigures l hM (i := ix (a)) ((nI_ix (isMb_nn c_325)).symm) (by omega)) ml_RX3_86 im_yX3_isFigures se_yX3_isFigures in_RX3 cd_yX3_isFigures 1 (by decide +kernel) ⟨Nat.le_of_ble_eq_true rfl, Nat.le_of_ble_eq_true rfl⟩ hM.1 rfl rfl rfl hl.1 rfl (Nat.le_of_ble_eq_true rfl) dX3_number_37 ⟨Nat.le_of_ble_eq_true rfl, Nat.le_of_ble_eq_true rfl⟩ (fun v g2 H1 locs1 hp hW hKT => ?_)
      obtain ⟨rfl, hg⟩ := hp
      rw [hg] at hW
      refine W.eq (g2 := F0 m 40 ls [.int (bI (figB (r 0 (ix (a))) (r 1 (ix (a)))))]) rfl ?_
      refine lv_if_eq (tgt := 73) hx hb dX3_number_40 (by decide) (fun c_328 => ?_) (fun c_328 => ?_)
      · skip
        have c_328 := (bI_eq0 _).mp c_328
        refine lv_iconst (v := 0) hx hb dX3_number_73 (by decide) ?_
        exact r_int hx hb hr hlk hW (by refine ⟨?_, rfl⟩; simp only [Fnumber, ← num_eq hm]; simp [c_325, c_327, c_328]) (Nat.le_of_ble_eq_true rfl) (Nat.le_of_ble_eq_true rfl) dX3_number_74
      · skip
        have c_328 := bI_ne0 c_328
        refine lv_iload_n hx hb dX3_number_43 rfl (lv_at hl 2 rfl) ?_
        refine lv_iconst (v := 0) hx hb dX3_number_44 (by decide) ?_
        refine lv_aload_n hx hb dX3_number_45 rfl (lv_at hl 0 rfl) ?_
        refine m_get hx hb hts hown hK hW hM 4 (by decide) fl_RX3_19 (v := .ref (ad 3)) rfl dX3_number_46 ?_
        refine lv_iload_n hx hb dX3_number_49 rfl (lv_at hl 1 rfl) ?_
        refine m_iald 3 (j := ix (a)) (v := r 3 (ix (a))) hx hb hK hW hM (by decide) rfl ((nI_ix (isMb_nn c_325)).symm) (show ix (a) < 60 from by omega) rfl dX3_number_50 ?_
        refine lv_iconst (v := 1) hx hb dX3_number_51 (by decide) ?_
        refine lv_isub hx hb dX3_number_52 ?_
        refine c_stat (own := RX3) (As := [.int (b), .int (0), .int ((r 3 (ix (a))) - (1))]) (rest := []) hx hb hml hown hts hK hW (k_X3_in l _ _ _) ml_RX3_78 st_yX3_in in_RX3 cd_yX3_in 3 (by decide +kernel) ⟨Nat.le_of_ble_eq_true rfl, Nat.le_of_ble_eq_true rfl⟩ rfl hl.1 rfl (Nat.le_of_ble_eq_true rfl) dX3_number_53 ⟨Nat.le_of_ble_eq_true rfl, Nat.le_of_ble_eq_true rfl⟩ (fun v g2 H1 locs1 hp hW hKT => ?_)
        obtain ⟨rfl, hg⟩ := hp
        rw [hg] at hW
        refine W.eq (g2 := F0 m 56 ls [.int (bI (mIn (b) (0) ((r 3 (ix (a))) - (1))))]) rfl ?_
        refine lv_if_eq (tgt := 73) hx hb dX3_number_56 (by decide) (fun c_329 => ?_) (fun c_329 => ?_)
        · skip
          have c_329 := (bI_eq0 _).mp c_329
          refine lv_iconst (v := 0) hx hb dX3_number_73 (by decide) ?_
          exact r_int hx hb hr hlk hW (by refine ⟨?_, rfl⟩; simp only [Fnumber, ← num_eq hm]; simp [c_325, c_327, c_328, c_329]) (Nat.le_of_ble_eq_true rfl) (Nat.le_of_ble_eq_true rfl) dX3_number_74
        · skip
          have c_329 := bI_ne0 c_329
          have hb_330 := inB_lt (by rw [← mIn_in hm.2.2.1 hm.2.2.2.1]; exact c_329) hm.2.2.1
          have hb_331 : ix (b) < 8 := Nat.lt_of_lt_of_le hb_330.2 hm.2.2.2.1
          refine lv_aload_n hx hb dX3_number_59 rfl (lv_at hl 0 rfl) ?_
          refine m_get hx hb hts hown hK hW hM 5 (by decide) fl_RX3_22 (v := .ref (ad 4)) rfl dX3_number_60 ?_
          refine lv_bipush (v := 8) hx hb dX3_number_63 (by decide) ?_
          refine lv_iload_n hx hb dX3_number_65 rfl (lv_at hl 1 rfl) ?_
          refine lv_imul hx hb dX3_number_66 ?_
          refine lv_iload_n hx hb dX3_number_67 rfl (lv_at hl 2 rfl) ?_
          refine lv_iadd hx hb dX3_number_68 ?_
          refine m_iald 4 (j := 8 * (ix (a)) + (ix (b))) (v := r 4 (8 * (ix (a)) + (ix (b)))) hx hb hK hW hM (by decide) rfl ((it_e ((nI_ix (isMb_nn c_325)).symm) ((nI_ix hb_330.1).symm))) (show 8 * (ix (a)) + (ix (b)) < 480 from by omega) rfl dX3_number_69 ?_
          refine lv_goto (tgt := 74) hx hb dX3_number_70 (by decide) ?_
          exact r_int hx hb hr hlk hW (by refine ⟨?_, rfl⟩; simp only [Fnumber, ← num_eq hm]; simp [c_325, c_327, c_328, c_329]) (Nat.le_of_ble_eq_true rfl) (Nat.le_of_ble_eq_true rfl) dX3_number_74
    · skip
      refine lv_iload_n hx hb dX3_number_19 rfl (lv_at hl 2 rfl) ?_
      refine lv_iconst (v := -1) hx hb dX3_number_20 (by decide) ?_
      refine lv_icmp_ne (tgt := 33) hx hb dX3_number_21 (by decide) (fun c_332 => ?_) (fun c_332 => ?_)
      · skip
        refine lv_iconst (v := 0) hx hb dX3_number_33 (by decide) ?_
        exact r_int hx hb hr hlk hW (by refine ⟨?_, rfl⟩; simp only [Fnumber, ← num_eq hm]; simp [c_325, c_327, c_332]) (Nat.le_of_ble_eq_true rfl) (Nat.le_of_ble_eq_true rfl) dX3_number_34
      · skip
        refine lv_aload_n hx hb dX3_number_24 rfl (lv_at hl 0 rfl) ?_
        refine m_get hx hb hts hown hK hW hM 3 (by decide) fl_RX3_16 (v := .ref (ad 2)) rfl dX3_number_25 ?_
        refine lv_iload_n hx hb dX3_number_28 rfl (lv_at hl 1 rfl) ?_
        refine m_iald 2 (j := ix (a)) (v := r 2 (ix (a))) hx hb hK hW hM (by decide) rfl ((nI_ix (isMb_nn c_325)).symm) (show ix (a) < 60 from by omega) rfl dX3_number_29 ?_
        refine lv_goto (tgt := 34) hx hb dX3_number_30 (by decide) ?_
        exact r_int hx hb hr hlk hW (by refine ⟨?_, rfl⟩; simp only [Fnumber, ← num_eq hm]; simp [c_325, c_327, c_332]) (Nat.le_of_ble_eq_true rfl) (Nat.le_of_ble_eq_true rfl) dX3_number_34
  · skip
    have c_325 := (bI_eq0 _).mp c_325
    refine lv_iconst (v := 0) hx hb dX3_number_8 (by decide) ?_
    exact r_int hx hb hr hlk hW (by refine ⟨?_, rfl⟩; simp only [Fnumber]; simp [c_325]) (Nat.le_of_ble_eq_true rfl) (Nat.le_of_ble_eq_true rfl) dX3_number_9

set_option maxHeartbeats 4000000 in
set_option maxRecDepth 100000 in
theorem k_X3_is (l : Launch) {E : gE} {y : Nat} {ad : Nat → Nat} {r t : sg} {g : gm} (hM : MR E y ad r t g) (hIV : IV r) (a b d : Int32) : CM l yX3_is cX3_is 4 (some .int) ({ frames := 2, cells := 0, slots := 0, locals := 44 }) E [.ref (y), .int (a), .int (b), .int (d)] g (fun vv g' => vv = some (.int (Fis r a b d)) ∧ g' = g) := by
  refine CM.of (by decide) (Nat.le_of_ble_eq_true rfl) ?_
  intro p e s m below meth c ls hM hK hW hl
  obtain ⟨hx, hb, hr, hml, hown, hts, hlk, hnm⟩ := hM
  have hown : s.vm.findClass RX3 = some m.cls := hown
  have hl : lv_has ls 4 [(0, .ref (y)), (1, .int (a)), (2, .int (b)), (3, .int (d))] := hl
  refine lv_aload_n hx hb dX3_is_0 rfl (lv_at hl 0 rfl) ?_
  refine lv_iload_n hx hb dX3_is_1 rfl (lv_at hl 1 rfl) ?_
  refine c_virt (own := RX3) (As := [.int (a)]) (rest := []) hx hb hml hown hts hK hW (k_X3_isMessage l hM hIV.1 hIV.2.1 _) ml_RX3_97 im_yX3_isMessage se_yX3_isMessage in_RX3 cd_yX3_isMessage 1 (by decide +kernel) ⟨Nat.le_of_ble_eq_true rfl, Nat.le_of_ble_eq_true rfl⟩ hM.1 rfl rfl rfl hl.1 rfl (Nat.le_of_ble_eq_true rfl) dX3_is_2 ⟨Nat.le_of_ble_eq_true rfl, Nat.le_of_ble_eq_true rfl⟩ (fun v g2 H1 locs1 hp hW hKT => ?_)
  obtain ⟨rfl, hg⟩ := hp
  rw [hg] at hW
  refine W.eq (g2 := F0 m 5 ls [.int (bI (isMb r (a)))]) rfl ?_
  refine lv_if_eq (tgt := 16) hx hb dX3_is_5 (by decide) (fun c_333 => ?_) (fun c_333 => ?_)
  · skip
    have c_333 := (bI_eq0 _).mp c_333
    refine lv_bipush (v := -2) hx hb dX3_is_16 (by decide) ?_
    exact r_int hx hb hr hlk hW (by refine ⟨?_, rfl⟩; simp [Fis, bI, c_333]) (Nat.le_of_ble_eq_true rfl) (Nat.le_of_ble_eq_true rfl) dX3_is_18
  · skip
    have c_333 := bI_ne0 c_333
    have hb_334 : ix (a) < 60 := by have := isMb_lt c_333; have := hIV.2.1; omega
    have hm := hIV.2.2.1 _ (isMb_lt c_333)
    refine lv_iload_n hx hb dX3_is_8 rfl (lv_at hl 2 rfl) ?_
    refine lv_iload_n hx hb dX3_is_9 rfl (lv_at hl 3 rfl) ?_
    refine c_stat (own := RX3) (As := [.int (b), .int (d)]) (rest := []) hx hb hml hown hts hK hW (k_X3_isView l _ _) ml_RX3_111 st_yX3_isView in_RX3 cd_yX3_isView 2 (by decide +kernel) ⟨Nat.le_of_ble_eq_true rfl, Nat.le_of_ble_eq_true rfl⟩ rfl hl.1 rfl (Nat.le_of_ble_eq_true rfl) dX3_is_10 ⟨Nat.le_of_ble_eq_true rfl, Nat.le_of_ble_eq_true rfl⟩ (fun v g2 H1 locs1 hp hW hKT => ?_)
    obtain ⟨rfl, hg⟩ := hp
    rw [hg] at hW
    refine W.eq (g2 := F0 m 13 ls [.int (bI (kindB (b) (d)))]) rfl ?_
    refine lv_if_ne (tgt := 19) hx hb dX3_is_13 (by decide) (fun c_335 => ?_) (fun c_335 => ?_)
    · skip
      have c_335 := bI_ne0 c_335
      refine lv_aload_n hx hb dX3_is_19 rfl (lv_at hl 0 rfl) ?_
      refine lv_iload_n hx hb dX3_is_20 rfl (lv_at hl 1 rfl) ?_
      refine lv_iload_n hx hb dX3_is_21 rfl (lv_at hl 2 rfl) ?_
      refine lv_iload_n hx hb dX3_is_22 rfl (lv_at hl 3 rfl) ?_
      refine c_virt (own := RX3) (As := [.int (a), .int (b), .int (d)]) (rest := []) hx hb hml hown hts hK hW (k_X3_isOf l hM (i := ix (a)) ((nI_ix (isMb_nn c_333)).symm) (by omega) _ _) ml_RX3_90 im_yX3_isOf se_yX3_isOf in_RX3 cd_yX3_isOf 3 (by decide +kernel) ⟨Nat.le_of_ble_eq_true rfl, Nat.le_of_ble_eq_true rfl⟩ hM.1 rfl rfl rfl hl.1 rfl (Nat.le_of_ble_eq_true rfl) dX3_is_23 ⟨Nat.le_of_ble_eq_true rfl, Nat.le_of_ble_eq_true rfl⟩ (fun v g2 H1 locs1 hp hW hKT => ?_)
      obtain ⟨rfl, hg⟩ := hp
      rw [hg] at hW
      refine W.eq (g2 := F0 m 26 ls [.int (bI (fitB r (ix (a)) (b) (d)))]) rfl ?_
      refine lv_if_eq (tgt := 33) hx hb dX3_is_26 (by decide) (fun c_336 => ?_) (fun c_336 => ?_)
      · skip
        have c_336 := (bI_eq0 _).mp c_336
        refine lv_iconst (v := 0) hx hb dX3_is_33 (by decide) ?_
        exact r_int hx hb hr hlk hW (by refine ⟨?_, rfl⟩; simp [Fis, bI, c_333, c_335, c_336]) (Nat.le_of_ble_eq_true rfl) (Nat.le_of_ble_eq_true rfl) dX3_is_34
      · skip
        have c_336 := bI_ne0 c_336
        refine lv_iconst (v := 1) hx hb dX3_is_29 (by decide) ?_
        refine lv_goto (tgt := 34) hx hb dX3_is_30 (by decide) ?_
        exact r_int hx hb hr hlk hW (by refine ⟨?_, rfl⟩; simp [Fis, bI, c_333, c_335, c_336]) (Nat.le_of_ble_eq_true rfl) (Nat.le_of_ble_eq_true rfl) dX3_is_34
    · skip
      have c_335 := (bI_eq0 _).mp c_335
      refine lv_bipush (v := -2) hx hb dX3_is_16 (by decide) ?_
      exact r_int hx hb hr hlk hW (by refine ⟨?_, rfl⟩; simp [Fis, bI, c_333, c_335]) (Nat.le_of_ble_eq_true rfl) (Nat.le_of_ble_eq_true rfl) dX3_is_18

set_option maxHeartbeats 4000000 in
set_option maxRecDepth 100000 in
theorem k_X3_about (l : Launch) {E : gE} {y : Nat} {ad : Nat → Nat} {r t : sg} {g : gm} (hM : MR E y ad r t g) (hIV : IV r) (a b : Int32) : CM l yX3_about cX3_about 3 (some .int) ({ frames := 2, cells := 0, slots := 0, locals := 43 }) E [.ref (y), .int (a), .int (b)] g (fun vv g' => vv = some (.int (Fabout r a b)) ∧ g' = g) := by
  refine CM.of (by decide) (Nat.le_of_ble_eq_true rfl) ?_
  intro p e s m below meth c ls hM hK hW hl
  obtain ⟨hx, hb, hr, hml, hown, hts, hlk, hnm⟩ := hM
  have hown : s.vm.findClass RX3 = some m.cls := hown
  have hl : lv_has ls 3 [(0, .ref (y)), (1, .int (a)), (2, .int (b))] := hl
  refine lv_aload_n hx hb dX3_about_0 rfl (lv_at hl 0 rfl) ?_
  refine lv_iload_n hx hb dX3_about_1 rfl (lv_at hl 1 rfl) ?_
  refine c_virt (own := RX3) (As := [.int (a)]) (rest := []) hx hb hml hown hts hK hW (k_X3_isMessage l hM hIV.1 hIV.2.1 _) ml_RX3_97 im_yX3_isMessage se_yX3_isMessage in_RX3 cd_yX3_isMessage 1 (by decide +kernel) ⟨Nat.le_of_ble_eq_true rfl, Nat.le_of_ble_eq_true rfl⟩ hM.1 rfl rfl rfl hl.1 rfl (Nat.le_of_ble_eq_true rfl) dX3_about_2 ⟨Nat.le_of_ble_eq_true rfl, Nat.le_of_ble_eq_true rfl⟩ (fun v g2 H1 locs1 hp hW hKT => ?_)
  obtain ⟨rfl, hg⟩ := hp
  rw [hg] at hW
  refine W.eq (g2 := F0 m 5 ls [.int (bI (isMb r (a)))]) rfl ?_
  refine lv_if_eq (tgt := 17) hx hb dX3_about_5 (by decide) (fun c_337 => ?_) (fun c_337 => ?_)
  · skip
    have c_337 := (bI_eq0 _).mp c_337
    refine lv_bipush (v := -2) hx hb dX3_about_17 (by decide) ?_
    exact r_int hx hb hr hlk hW (by refine ⟨?_, rfl⟩; simp [Fabout, c_337]) (Nat.le_of_ble_eq_true rfl) (Nat.le_of_ble_eq_true rfl) dX3_about_19
  · skip
    have c_337 := bI_ne0 c_337
    have hb_338 : ix (a) < 60 := by have := isMb_lt c_337; have := hIV.2.1; omega
    have hm := hIV.2.2.1 _ (isMb_lt c_337)
    refine lv_iload_n hx hb dX3_about_8 rfl (lv_at hl 2 rfl) ?_
    refine lv_iconst (v := 0) hx hb dX3_about_9 (by decide) ?_
    refine lv_iconst (v := 2) hx hb dX3_about_10 (by decide) ?_
    refine c_stat (own := RX3) (As := [.int (b), .int (0), .int (2)]) (rest := []) hx hb hml hown hts hK hW (k_X3_in l _ _ _) ml_RX3_78 st_yX3_in in_RX3 cd_yX3_in 3 (by decide +kernel) ⟨Nat.le_of_ble_eq_true rfl, Nat.le_of_ble_eq_true rfl⟩ rfl hl.1 rfl (Nat.le_of_ble_eq_true rfl) dX3_about_11 ⟨Nat.le_of_ble_eq_true rfl, Nat.le_of_ble_eq_true rfl⟩ (fun v g2 H1 locs1 hp hW hKT => ?_)
    obtain ⟨rfl, hg⟩ := hp
    rw [hg] at hW
    refine W.eq (g2 := F0 m 14 ls [.int (bI (mIn (b) (0) (2)))]) rfl ?_
    refine lv_if_ne (tgt := 20) hx hb dX3_about_14 (by decide) (fun c_339 => ?_) (fun c_339 => ?_)
    · skip
      have c_339 := bI_ne0 c_339
      have hr9 := in_t (n := 2) (by decide) c_339
      have hr9 : b = 0 ∨ b = 1 ∨ b = 2 := by
        obtain ⟨j, hj, e9⟩ := hr9
        rcases (show j = 0 ∨ j = 1 ∨ j = 2 by omega) with rfl | rfl | rfl
        all_goals (rw [e9]; simp [nI])
      refine lv_iload_n hx hb dX3_about_20 rfl (lv_at hl 2 rfl) ?_
      refine lv_if_ne (tgt := 33) hx hb dX3_about_21 (by decide) (fun c_340 => ?_) (fun c_340 => ?_)
      · skip
        refine lv_iload_n hx hb dX3_about_33 rfl (lv_at hl 2 rfl) ?_
        refine lv_iconst (v := 1) hx hb dX3_about_34 (by decide) ?_
        refine lv_icmp_ne (tgt := 47) hx hb dX3_about_35 (by decide) (fun c_341 => ?_) (fun c_341 => ?_)
        · skip
          refine lv_aload_n hx hb dX3_about_47 rfl (lv_at hl 0 rfl) ?_
          refine m_get hx hb hts hown hK hW hM 4 (by decide) fl_RX3_19 (v := .ref (ad 3)) rfl dX3_about_48 ?_
          refine lv_iload_n hx hb dX3_about_51 rfl (lv_at hl 1 rfl) ?_
          refine m_iald 3 (j := ix (a)) (v := r 3 (ix (a))) hx hb hK hW hM (by decide) rfl ((nI_ix (isMb_nn c_337)).symm) (show ix (a) < 60 from by omega) rfl dX3_about_52 ?_
          exact r_int hx hb hr hlk hW (by refine ⟨?_, rfl⟩; rcases hr9 with hr9 | hr9 | hr9 <;> simp_all [Fabout]) (Nat.le_of_ble_eq_true rfl) (Nat.le_of_ble_eq_true rfl) dX3_about_53
        · skip
          refine lv_aload_n hx hb dX3_about_38 rfl (lv_at hl 0 rfl) ?_
          refine m_get hx hb hts hown hK hW hM 2 (by decide) fl_RX3_13 (v := .ref (ad 1)) rfl dX3_about_39 ?_
          refine lv_iload_n hx hb dX3_about_42 rfl (lv_at hl 1 rfl) ?_
          refine m_iald 1 (j := ix (a)) (v := r 1 (ix (a))) hx hb hK hW hM (by decide) rfl ((nI_ix (isMb_nn c_337)).symm) (show ix (a) < 60 from by omega) rfl dX3_about_43 ?_
          refine lv_goto (tgt := 53) hx hb dX3_about_44 (by decide) ?_
          exact r_int hx hb hr hlk hW (by refine ⟨?_, rfl⟩; rcases hr9 with hr9 | hr9 | hr9 <;> simp_all [Fabout]) (Nat.le_of_ble_eq_true rfl) (Nat.le_of_ble_eq_true rfl) dX3_about_53
      · skip
        refine lv_aload_n hx hb dX3_about_24 rfl (lv_at hl 0 rfl) ?_
        refine m_get hx hb hts hown hK hW hM 1 (by decide) fl_RX3_7 (v := .ref (ad 0)) rfl dX3_about_25 ?_
        refine lv_iload_n hx hb dX3_about_28 rfl (lv_at hl 1 rfl) ?_
        refine m_iald 0 (j := ix (a)) (v := r 0 (ix (a))) hx hb hK hW hM (by decide) rfl ((nI_ix (isMb_nn c_337)).symm) (show ix (a) < 60 from by omega) rfl dX3_about_29 ?_
        refine lv_goto (tgt := 53) hx hb dX3_about_30 (by decide) ?_
        exact r_int hx hb hr hlk hW (by refine ⟨?_, rfl⟩; rcases hr9 with hr9 | hr9 | hr9 <;> simp_all [Fabout]) (Nat.le_of_ble_eq_true rfl) (Nat.le_of_ble_eq_true rfl) dX3_about_53
    · skip
      have c_339 := (bI_eq0 _).mp c_339
      have hq_342 : ¬ b = 0 := in_f (n := 2) (by decide) c_339 (j := 0) (by decide)
      have hq_343 : ¬ b = 1 := in_f (n := 2) (by decide) c_339 (j := 1) (by decide)
      have hq_344 : ¬ b = 2 := in_f (n := 2) (by decide) c_339 (j := 2) (by decide)
      refine lv_bipush (v := -2) hx hb dX3_about_17 (by decide) ?_
      exact r_int hx hb hr hlk hW (by refine ⟨?_, rfl⟩; simp [Fabout, c_337, c_339, hq_342, hq_343, hq_344]) (Nat.le_of_ble_eq_true rfl) (Nat.le_of_ble_eq_true rfl) dX3_about_19

set_option maxHeartbeats 4000000 in
set_option maxRecDepth 100000 in
theorem k_X3_told (l : Launch) {E : gE} {y : Nat} {ad : Nat → Nat} {r t : sg} {g : gm} (hM : MR E y ad r t g) (hIV : IV r) (b : Int32) : CM l yX3_told cX3_told 2 (some .int) ({ frames := 1, cells := 0, slots := 0, locals := 22 }) E [.ref (y), .int (b)] g (fun vv g' => vv = some (.int (Ftold (r 17 1 == 0) r b)) ∧ g' = g) := by
  refine CM.of (by decide) (Nat.le_of_ble_eq_true rfl) ?_
  intro p e s m below meth c ls hM hK hW hl
  obtain ⟨hx, hb, hr, hml, hown, hts, hlk, hnm⟩ := hM
  have hown : s.vm.findClass RX3 = some m.cls := hown
  have hl : lv_has ls 2 [(0, .ref (y)), (1, .int (b))] := hl
  refine lv_iload_n hx hb dX3_told_0 rfl (lv_at hl 1 rfl) ?_
  refine lv_iconst (v := 0) hx hb dX3_told_1 (by decide) ?_
  refine lv_iconst (v := 4) hx hb dX3_told_2 (by decide) ?_
  refine c_stat (own := RX3) (As := [.int (b), .int (0), .int (4)]) (rest := []) hx hb hml hown hts hK hW (k_X3_in l _ _ _) ml_RX3_78 st_yX3_in in_RX3 cd_yX3_in 3 (by decide +kernel) ⟨Nat.le_of_ble_eq_true rfl, Nat.le_of_ble_eq_true rfl⟩ rfl hl.1 rfl (Nat.le_of_ble_eq_true rfl) dX3_told_3 ⟨Nat.le_of_ble_eq_true rfl, Nat.le_of_ble_eq_true rfl⟩ (fun v g2 H1 locs1 hp hW hKT => ?_)
  obtain ⟨rfl, hg⟩ := hp
  rw [hg] at hW
  refine W.eq (g2 := F0 m 6 ls [.int (bI (mIn (b) (0) (4)))]) rfl ?_
  refine lv_if_ne (tgt := 12) hx hb dX3_told_6 (by decide) (fun c_345 => ?_) (fun c_345 => ?_)
  · skip
    have c_345 := bI_ne0 c_345
    have hr9 := in_t (n := 4) (by decide) c_345
    have hr9 : b = 0 ∨ b = 1 ∨ b = 2 ∨ b = 3 ∨ b = 4 := by
      obtain ⟨j, hj, e9⟩ := hr9
      rcases (show j = 0 ∨ j = 1 ∨ j = 2 ∨ j = 3 ∨ j = 4 by omega) with rfl | rfl | rfl | rfl | rfl
      all_goals (rw [e9]; simp [nI])
    refine lv_aload_n hx hb dX3_told_12 rfl (lv_at hl 0 rfl) ?_
    refine m_get hx hb hts hown hK hW hM 18 (by decide) fl_RX3_158 (v := .int (r 17 1)) rfl dX3_told_13 ?_
    refine lv_if_ne (tgt := 30) hx hb dX3_told_16 (by decide) (fun c_346 => ?_) (fun c_346 => ?_)
    · skip
      refine lv_iload_n hx hb dX3_told_30 rfl (lv_at hl 1 rfl) ?_
      refine lv_if_ne (tgt := 41) hx hb dX3_told_31 (by decide) (fun c_347 => ?_) (fun c_347 => ?_)
      · skip
        refine lv_iload_n hx hb dX3_told_41 rfl (lv_at hl 1 rfl) ?_
        refine lv_iconst (v := 1) hx hb dX3_told_42 (by decide) ?_
        refine lv_icmp_ne (tgt := 53) hx hb dX3_told_43 (by decide) (fun c_348 => ?_) (fun c_348 => ?_)
        · skip
          refine lv_iload_n hx hb dX3_told_53 rfl (lv_at hl 1 rfl) ?_
          refine lv_iconst (v := 2) hx hb dX3_told_54 (by decide) ?_
          refine lv_icmp_ne (tgt := 65) hx hb dX3_told_55 (by decide) (fun c_349 => ?_) (fun c_349 => ?_)
          · skip
            refine lv_iload_n hx hb dX3_told_65 rfl (lv_at hl 1 rfl) ?_
            refine lv_iconst (v := 3) hx hb dX3_told_66 (by decide) ?_
            refine lv_icmp_ne (tgt := 77) hx hb dX3_told_67 (by decide) (fun c_350 => ?_) (fun c_350 => ?_)
            · skip
              refine lv_aload_n hx hb dX3_told_77 rfl (lv_at hl 0 rfl) ?_
              refine m_get hx hb hts hown hK hW hM 23 (by decide) fl_RX3_139 (v := .int (r 17 6)) rfl dX3_told_78 ?_
              exact r_int hx hb hr hlk hW (by refine ⟨?_, rfl⟩; rcases hr9 with hr9 | hr9 | hr9 | hr9 | hr9 <;> simp_all [Ftold, tal]) (Nat.le_of_ble_eq_true rfl) (Nat.le_of_ble_eq_true rfl) dX3_told_81
            · skip
              refine lv_aload_n hx hb dX3_told_70 rfl (lv_at hl 0 rfl) ?_
              refine m_get hx hb hts hown hK hW hM 22 (by decide) fl_RX3_136 (v := .int (r 17 5)) rfl dX3_told_71 ?_
              refine lv_goto (tgt := 81) hx hb dX3_told_74 (by decide) ?_
              exact r_int hx hb hr hlk hW (by refine ⟨?_, rfl⟩; rcases hr9 with hr9 | hr9 | hr9 | hr9 | hr9 <;> simp_all [Ftold, tal]) (Nat.le_of_ble_eq_true rfl) (Nat.le_of_ble_eq_true rfl) dX3_told_81
          · skip
            refine lv_aload_n hx hb dX3_told_58 rfl (lv_at hl 0 rfl) ?_
            refine m_get hx hb hts hown hK hW hM 21 (by decide) fl_RX3_145 (v := .int (r 17 4)) rfl dX3_told_59 ?_
            refine lv_goto (tgt := 81) hx hb dX3_told_62 (by decide) ?_
            exact r_int hx hb hr hlk hW (by refine ⟨?_, rfl⟩; rcases hr9 with hr9 | hr9 | hr9 | hr9 | hr9 <;> simp_all [Ftold, tal]) (Nat.le_of_ble_eq_true rfl) (Nat.le_of_ble_eq_true rfl) dX3_told_81
        · skip
          refine lv_aload_n hx hb dX3_told_46 rfl (lv_at hl 0 rfl) ?_
          refine m_get hx hb hts hown hK hW hM 20 (by decide) fl_RX3_133 (v := .int (r 17 3)) rfl dX3_told_47 ?_
          refine lv_goto (tgt := 81) hx hb dX3_told_50 (by decide) ?_
          exact r_int hx hb hr hlk hW (by refine ⟨?_, rfl⟩; rcases hr9 with hr9 | hr9 | hr9 | hr9 | hr9 <;> simp_all [Ftold, tal]) (Nat.le_of_ble_eq_true rfl) (Nat.le_of_ble_eq_true rfl) dX3_told_81
      · skip
        refine lv_aload_n hx hb dX3_told_34 rfl (lv_at hl 0 rfl) ?_
        refine m_get hx hb hts hown hK hW hM 19 (by decide) fl_RX3_148 (v := .int (r 17 2)) rfl dX3_told_35 ?_
        refine lv_goto (tgt := 81) hx hb dX3_told_38 (by decide) ?_
        exact r_int hx hb hr hlk hW (by refine ⟨?_, rfl⟩; rcases hr9 with hr9 | hr9 | hr9 | hr9 | hr9 <;> simp_all [Ftold, tal]) (Nat.le_of_ble_eq_true rfl) (Nat.le_of_ble_eq_true rfl) dX3_told_81
    · skip
      refine lv_iload_n hx hb dX3_told_19 rfl (lv_at hl 1 rfl) ?_
      refine lv_iconst (v := 4) hx hb dX3_told_20 (by decide) ?_
      refine lv_icmp_ne (tgt := 28) hx hb dX3_told_21 (by decide) (fun c_351 => ?_) (fun c_351 => ?_)
      · skip
        refine lv_iconst (v := 0) hx hb dX3_told_28 (by decide) ?_
        exact r_int hx hb hr hlk hW (by refine ⟨?_, rfl⟩; rcases hr9 with hr9 | hr9 | hr9 | hr9 | hr9 <;> simp_all [Ftold, tal]) (Nat.le_of_ble_eq_true rfl) (Nat.le_of_ble_eq_true rfl) dX3_told_29
      · skip
        refine lv_iconst (v := -1) hx hb dX3_told_24 (by decide) ?_
        refine lv_goto (tgt := 29) hx hb dX3_told_25 (by decide) ?_
        exact r_int hx hb hr hlk hW (by refine ⟨?_, rfl⟩; rcases hr9 with hr9 | hr9 | hr9 | hr9 | hr9 <;> simp_all [Ftold, tal]) (Nat.le_of_ble_eq_true rfl) (Nat.le_of_ble_eq_true rfl) dX3_told_29
  · skip
    have c_345 := (bI_eq0 _).mp c_345
    have hq_352 : ¬ b = 0 := in_f (n := 4) (by decide) c_345 (j := 0) (by decide)
    have hq_353 : ¬ b = 1 := in_f (n := 4) (by decide) c_345 (j := 1) (by decide)
    have hq_354 : ¬ b = 2 := in_f (n := 4) (by decide) c_345 (j := 2) (by decide)
    have hq_355 : ¬ b = 3 := in_f (n := 4) (by decide) c_345 (j := 3) (by decide)
    have hq_356 : ¬ b = 4 := in_f (n := 4) (by decide) c_345 (j := 4) (by decide)
    refine lv_bipush (v := -2) hx hb dX3_told_9 (by decide) ?_
    exact r_int hx hb hr hlk hW (by refine ⟨?_, rfl⟩; simp [Ftold, tal, c_345, hq_352, hq_353, hq_354, hq_355, hq_356]) (Nat.le_of_ble_eq_true rfl) (Nat.le_of_ble_eq_true rfl) dX3_told_11

set_option maxHeartbeats 4000000 in
set_option maxRecDepth 100000 in
theorem k_X3_of (l : Launch) {E : gE} {y : Nat} {ad : Nat → Nat} {r t : sg} {g : gm} (hM : MR E y ad r t g) (hIV : IV r) (a b : Int32) : CM l yX3_of cX3_of 3 (some .int) ({ frames := 2, cells := 0, slots := 0, locals := 43 }) E [.ref (y), .int (a), .int (b)] g (fun vv g' => vv = some (.int (Fof r a b)) ∧ g' = g) := by
  refine CM.of (by decide) (Nat.le_of_ble_eq_true rfl) ?_
  intro p e s m below meth c ls hM hK hW hl
  obtain ⟨hx, hb, hr, hml, hown, hts, hlk, hnm⟩ := hM
  have hown : s.vm.findClass RX3 = some m.cls := hown
  have hl : lv_has ls 3 [(0, .ref (y)), (1, .int (a)), (2, .int (b))] := hl
  refine lv_aload_n hx hb dX3_of_0 rfl (lv_at hl 0 rfl) ?_
  refine lv_iload_n hx hb dX3_of_1 rfl (lv_at hl 1 rfl) ?_
  refine c_virt (own := RX3) (As := [.int (a)]) (rest := []) hx hb hml hown hts hK hW (k_X3_isCounter l hM _) ml_RX3_114 im_yX3_isCounter se_yX3_isCounter in_RX3 cd_yX3_isCounter 1 (by decide +kernel) ⟨Nat.le_of_ble_eq_true rfl, Nat.le_of_ble_eq_true rfl⟩ hM.1 rfl rfl rfl hl.1 rfl (Nat.le_of_ble_eq_true rfl) dX3_of_2 ⟨Nat.le_of_ble_eq_true rfl, Nat.le_of_ble_eq_true rfl⟩ (fun v g2 H1 locs1 hp hW hKT => ?_)
  obtain ⟨rfl, hg⟩ := hp
  rw [hg] at hW
  refine W.eq (g2 := F0 m 5 ls [.int (bI (isCb r (a)))]) rfl ?_
  refine lv_if_eq (tgt := 18) hx hb dX3_of_5 (by decide) (fun c_357 => ?_) (fun c_357 => ?_)
  · skip
    have c_357 := (bI_eq0 _).mp c_357
    refine lv_iconst (v := 0) hx hb dX3_of_18 (by decide) ?_
    exact r_int hx hb hr hlk hW (by refine ⟨?_, rfl⟩; simp [Fof, asI, c_357]) (Nat.le_of_ble_eq_true rfl) (Nat.le_of_ble_eq_true rfl) dX3_of_19
  · skip
    have c_357 := bI_ne0 c_357
    have hb_358 : ix (a) < 8 := isCb_lt c_357
    refine lv_iload_n hx hb dX3_of_8 rfl (lv_at hl 2 rfl) ?_
    refine lv_iconst (v := 0) hx hb dX3_of_9 (by decide) ?_
    refine lv_bipush (v := 6) hx hb dX3_of_10 (by decide) ?_
    refine c_stat (own := RX3) (As := [.int (b), .int (0), .int (6)]) (rest := []) hx hb hml hown hts hK hW (k_X3_in l _ _ _) ml_RX3_78 st_yX3_in in_RX3 cd_yX3_in 3 (by decide +kernel) ⟨Nat.le_of_ble_eq_true rfl, Nat.le_of_ble_eq_true rfl⟩ rfl hl.1 rfl (Nat.le_of_ble_eq_true rfl) dX3_of_12 ⟨Nat.le_of_ble_eq_true rfl, Nat.le_of_ble_eq_true rfl⟩ (fun v g2 H1 locs1 hp hW hKT => ?_)
    obtain ⟨rfl, hg⟩ := hp
    rw [hg] at hW
    refine W.eq (g2 := F0 m 15 ls [.int (bI (mIn (b) (0) (6)))]) rfl ?_
    refine lv_if_ne (tgt := 20) hx hb dX3_of_15 (by decide) (fun c_359 => ?_) (fun c_359 => ?_)
    · skip
      have c_359 := bI_ne0 c_359
      have hr9 := in_t (n := 6) (by decide) c_359
      have hr9 : b = 0 ∨ b = 1 ∨ b = 2 ∨ b = 3 ∨ b = 4 ∨ b = 5 ∨ b = 6 := by
        obtain ⟨j, hj, e9⟩ := hr9
        rcases (show j = 0 ∨ j = 1 ∨ j = 2 ∨ j = 3 ∨ j = 4 ∨ j = 5 ∨ j = 6 by omega) with rfl | rfl | rfl | rfl | rfl | rfl | rfl
        all_goals (rw [e9]; simp [nI])
      refine lv_iload_n hx hb dX3_of_20 rfl (lv_at hl 2 rfl) ?_
      by_cases c_360 : b = 0
      · skip
        refine lv_tableIn (tgt := 60) hx hb dX3_of_21 (by rw [c_360]; decide) (by rw [c_360]; decide) (by rw [c_360]; rfl) (by decide) ?_
        refine lv_aload_n hx hb dX3_of_60 rfl (lv_at hl 0 rfl) ?_
        refine m_get hx hb hts hown hK hW hM 14 (by decide) fl_RX3_50 (v := .ref (ad 13)) rfl dX3_of_61 ?_
        refine lv_iload_n hx hb dX3_of_64 rfl (lv_at hl 1 rfl) ?_
        refine m_iald 13 (j := ix (a)) (v := r 13 (ix (a))) hx hb hK hW hM (by decide) rfl ((nI_ix (isCb_nn c_357)).symm) (show ix (a) < 8 from by omega) rfl dX3_of_65 ?_
        exact r_int hx hb hr hlk hW (by refine ⟨?_, rfl⟩; rcases hr9 with hr9 | hr9 | hr9 | hr9 | hr9 | hr9 | hr9 <;> simp_all [Fof, asI]) (Nat.le_of_ble_eq_true rfl) (Nat.le_of_ble_eq_true rfl) dX3_of_66
      by_cases c_361 : b = 1
      · skip
        refine lv_tableIn (tgt := 67) hx hb dX3_of_21 (by rw [c_361]; decide) (by rw [c_361]; decide) (by rw [c_361]; rfl) (by decide) ?_
        refine lv_aload_n hx hb dX3_of_67 rfl (lv_at hl 0 rfl) ?_
        refine m_get hx hb hts hown hK hW hM 16 (by decide) fl_RX3_56 (v := .ref (ad 15)) rfl dX3_of_68 ?_
        refine lv_iload_n hx hb dX3_of_71 rfl (lv_at hl 1 rfl) ?_
        refine m_iald 15 (j := ix (a)) (v := r 15 (ix (a))) hx hb hK hW hM (by decide) rfl ((nI_ix (isCb_nn c_357)).symm) (show ix (a) < 8 from by omega) rfl dX3_of_72 ?_
        exact r_int hx hb hr hlk hW (by refine ⟨?_, rfl⟩; rcases hr9 with hr9 | hr9 | hr9 | hr9 | hr9 | hr9 | hr9 <;> simp_all [Fof, asI]) (Nat.le_of_ble_eq_true rfl) (Nat.le_of_ble_eq_true rfl) dX3_of_73
      by_cases c_362 : b = 2
      · skip
        refine lv_tableIn (tgt := 74) hx hb dX3_of_21 (by rw [c_362]; decide) (by rw [c_362]; decide) (by rw [c_362]; rfl) (by decide) ?_
        refine lv_aload_n hx hb dX3_of_74 rfl (lv_at hl 0 rfl) ?_
        refine m_get hx hb hts hown hK hW hM 17 (by decide) fl_RX3_59 (v := .ref (ad 16)) rfl dX3_of_75 ?_
        refine lv_iload_n hx hb dX3_of_78 rfl (lv_at hl 1 rfl) ?_
        refine m_iald 16 (j := ix (a)) (v := r 16 (ix (a))) hx hb hK hW hM (by decide) rfl ((nI_ix (isCb_nn c_357)).symm) (show ix (a) < 8 from by omega) rfl dX3_of_79 ?_
        exact r_int hx hb hr hlk hW (by refine ⟨?_, rfl⟩; rcases hr9 with hr9 | hr9 | hr9 | hr9 | hr9 | hr9 | hr9 <;> simp_all [Fof, asI]) (Nat.le_of_ble_eq_true rfl) (Nat.le_of_ble_eq_true rfl) dX3_of_80
      by_cases c_363 : b = 3
      · skip
        refine lv_tableIn (tgt := 81) hx hb dX3_of_21 (by rw [c_363]; decide) (by rw [c_363]; decide) (by rw [c_363]; rfl) (by decide) ?_
        refine lv_aload_n hx hb dX3_of_81 rfl (lv_at hl 0 rfl) ?_
        refine m_get hx hb hts hown hK hW hM 7 (by decide) fl_RX3_29 (v := .ref (ad 6)) rfl dX3_of_82 ?_
        refine lv_iload_n hx hb dX3_of_85 rfl (lv_at hl 1 rfl) ?_
        refine m_zald 6 (j := ix (a)) (v := r 6 (ix (a))) hx hb hK hW hM (by decide) rfl ((nI_ix (isCb_nn c_357)).symm) (show ix (a) < 8 from by omega) rfl dX3_of_86 ?_
        refine lv_if_eq (tgt := 94) hx hb dX3_of_87 (by decide) (fun c_364 => ?_) (fun c_364 => ?_)
        · skip
          refine lv_iconst (v := 0) hx hb dX3_of_94 (by decide) ?_
          exact r_int hx hb hr hlk hW (by refine ⟨?_, rfl⟩; rcases hr9 with hr9 | hr9 | hr9 | hr9 | hr9 | hr9 | hr9 <;> simp_all [Fof, asI]) (Nat.le_of_ble_eq_true rfl) (Nat.le_of_ble_eq_true rfl) dX3_of_95
        · skip
          refine lv_iconst (v := 1) hx hb dX3_of_90 (by decide) ?_
          refine lv_goto (tgt := 95) hx hb dX3_of_91 (by decide) ?_
          exact r_int hx hb hr hlk hW (by refine ⟨?_, rfl⟩; rcases hr9 with hr9 | hr9 | hr9 | hr9 | hr9 | hr9 | hr9 <;> simp_all [Fof, asI]) (Nat.le_of_ble_eq_true rfl) (Nat.le_of_ble_eq_true rfl) dX3_of_95
      by_cases c_365 : b = 4
      · skip
        refine lv_tableIn (tgt := 96) hx hb dX3_of_21 (by rw [c_365]; decide) (by rw [c_365]; decide) (by rw [c_365]; rfl) (by decide) ?_
        refine lv_aload_n hx hb dX3_of_96 rfl (lv_at hl 0 rfl) ?_
        refine m_get hx hb hts hown hK hW hM 15 (by decide) fl_RX3_53 (v := .ref (ad 14)) rfl dX3_of_97 ?_
        refine lv_iload_n hx hb dX3_of_100 rfl (lv_at hl 1 rfl) ?_
        refine m_iald 14 (j := ix (a)) (v := r 14 (ix (a))) hx hb hK hW hM (by decide) rfl ((nI_ix (isCb_nn c_357)).symm) (show ix (a) < 8 from by omega) rfl dX3_of_101 ?_
        exact r_int hx hb hr hlk hW (by refine ⟨?_, rfl⟩; rcases hr9 with hr9 | hr9 | hr9 | hr9 | hr9 | hr9 | hr9 <;> simp_all [Fof, asI]) (Nat.le_of_ble_eq_true rfl) (Nat.le_of_ble_eq_true rfl) dX3_of_102
      by_cases c_366 : b = 5
      · skip
        refine lv_tableIn (tgt := 103) hx hb dX3_of_21 (by rw [c_366]; decide) (by rw [c_366]; decide) (by rw [c_366]; rfl) (by decide) ?_
        refine lv_aload_n hx hb dX3_of_103 rfl (lv_at hl 0 rfl) ?_
        refine m_get hx hb hts hown hK hW hM 13 (by decide) fl_RX3_47 (v := .ref (ad 12)) rfl dX3_of_104 ?_
        refine lv_iload_n hx hb dX3_of_107 rfl (lv_at hl 1 rfl) ?_
        refine m_iald 12 (j := ix (a)) (v := r 12 (ix (a))) hx hb hK hW hM (by decide) rfl ((nI_ix (isCb_nn c_357)).symm) (show ix (a) < 8 from by omega) rfl dX3_of_108 ?_
        exact r_int hx hb hr hlk hW (by refine ⟨?_, rfl⟩; rcases hr9 with hr9 | hr9 | hr9 | hr9 | hr9 | hr9 | hr9 <;> simp_all [Fof, asI]) (Nat.le_of_ble_eq_true rfl) (Nat.le_of_ble_eq_true rfl) dX3_of_109
      refine lv_tableOut (tgt := 110) hx hb dX3_of_21 (by have z0 := lv_neT (a := 0) c_360 (by decide); have z1 := lv_neT (a := 1) c_361 (by decide); have z2 := lv_neT (a := 2) c_362 (by decide); have z3 := lv_neT (a := 3) c_363 (by decide); have z4 := lv_neT (a := 4) c_365 (by decide); have z5 := lv_neT (a := 5) c_366 (by decide); omega) (by decide) ?_
      refine lv_aload_n hx hb dX3_of_110 rfl (lv_at hl 0 rfl) ?_
      refine m_get hx hb hts hown hK hW hM 8 (by decide) fl_RX3_32 (v := .ref (ad 7)) rfl dX3_of_111 ?_
      refine lv_iload_n hx hb dX3_of_114 rfl (lv_at hl 1 rfl) ?_
      refine m_zald 7 (j := ix (a)) (v := r 7 (ix (a))) hx hb hK hW hM (by decide) rfl ((nI_ix (isCb_nn c_357)).symm) (show ix (a) < 8 from by omega) rfl dX3_of_115 ?_
      refine lv_if_eq (tgt := 123) hx hb dX3_of_116 (by decide) (fun c_367 => ?_) (fun c_367 => ?_)
      · skip
        refine lv_iconst (v := 0) hx hb dX3_of_123 (by decide) ?_
        exact r_int hx hb hr hlk hW (by refine ⟨?_, rfl⟩; rcases hr9 with hr9 | hr9 | hr9 | hr9 | hr9 | hr9 | hr9 <;> simp_all [Fof, asI]) (Nat.le_of_ble_eq_true rfl) (Nat.le_of_ble_eq_true rfl) dX3_of_124
      · skip
        refine lv_iconst (v := 1) hx hb dX3_of_119 (by decide) ?_
        refine lv_goto (tgt := 124) hx hb dX3_of_120 (by decide) ?_
        exact r_int hx hb hr hlk hW (by refine ⟨?_, rfl⟩; rcases hr9 with hr9 | hr9 | hr9 | hr9 | hr9 | hr9 | hr9 <;> simp_all [Fof, asI]) (Nat.le_of_ble_eq_true rfl) (Nat.le_of_ble_eq_true rfl) dX3_of_124
    · skip
      have c_359 := (bI_eq0 _).mp c_359
      have hq_368 : ¬ b = 0 := in_f (n := 6) (by decide) c_359 (j := 0) (by decide)
      have hq_369 : ¬ b = 1 := in_f (n := 6) (by decide) c_359 (j := 1) (by decide)
      have hq_370 : ¬ b = 2 := in_f (n := 6) (by decide) c_359 (j := 2) (by decide)
      have hq_371 : ¬ b = 3 := in_f (n := 6) (by decide) c_359 (j := 3) (by decide)
      have hq_372 : ¬ b = 4 := in_f (n := 6) (by decide) c_359 (j := 4) (by decide)
      have hq_373 : ¬ b = 5 := in_f (n := 6) (by decide) c_359 (j := 5) (by decide)
      have hq_374 : ¬ b = 6 := in_f (n := 6) (by decide) c_359 (j := 6) (by decide)
      refine lv_iconst (v := 0) hx hb dX3_of_18 (by decide) ?_
      exact r_int hx hb hr hlk hW (by refine ⟨?_, rfl⟩; simp [Fof, asI, c_357, c_359, hq_368, hq_369, hq_370, hq_371, hq_372, hq_373, hq_374]) (Nat.le_of_ble_eq_true rfl) (Nat.le_of_ble_eq_true rfl) dX3_of_19
end
section
theorem in7 {a : Int32} {n : Nat} (hn : n < 2 ^ 30) (h : mIn a 0 (nI n) = true) : ¬ a < 0 ∧ ix a < n + 1 := by
  obtain ⟨j, hj, rfl⟩ := in_t (by omega) h
  refine ⟨nI_pos (by omega), ?_⟩
  rw [ix, nI_clamp (by omega)]
  omega
theorem in7b {a : Int32} : (mIn a 0 7) = (!decide (a < 0) && decide (a < 8)) := by
  have := mIn_n (v := a) (n := 8) (by decide)
  exact this
theorem can_eq {r : sg} {k : Nat} (h : ¬ r 11 k < 0) (j : Int32) : (mIn j 0 5 && !(mIn j 2 4 && (r 11 k == 0 || (!decide (r 10 k < 4) && r 11 k == 1)))) = canB r k j := by
  have hd : decide (0 < r 11 k) = !(r 11 k == 0) := by
    by_cases h0 : r 11 k = 0
    · simp [h0]
    · have : 0 < r 11 k := by
        rw [Int32.lt_iff_toInt_lt] at h ⊢
        have : (r 11 k).toInt ≠ 0 := fun q => h0 (Int32.toInt_inj.mp q)
        simp only [show (0 : Int32).toInt = 0 from rfl] at h ⊢
        omega
      simp [h0, this]
  have h24 : mIn j 2 4 = decide (j = 2 ∨ j = 3 ∨ j = 4) := by
    rw [Bool.eq_iff_iff]
    simp only [mIn, Bool.and_eq_true, Bool.not_eq_true', decide_eq_false_iff_not, decide_eq_true_eq, Int32.lt_iff_toInt_lt, ← Int32.toInt_inj, show (2 : Int32).toInt = 2 from rfl, show (3 : Int32).toInt = 3 from rfl, show (4 : Int32).toInt = 4 from rfl]
    omega
  have h05 : (j = 2 ∨ j = 3 ∨ j = 4) → mIn j 0 5 = true := fun q => by rcases q with rfl | rfl | rfl <;> rfl
  by_cases hj : j = 2 ∨ j = 3 ∨ j = 4
  · rw [h24, h05 hj]
    simp only [canB, if_pos hj, hd, figB, hj, decide_true, Bool.true_and]
    cases (r 11 k == 0) <;> simp
  · rw [h24]
    simp only [canB, if_neg hj, hj, decide_false, Bool.false_and, Bool.not_false, Bool.and_true]
    rfl

set_option maxHeartbeats 4000000 in
set_option maxRecDepth 100000 in
theorem k_X3_place (l : Launch) {E : gE} {y : Nat} {ad : Nat → Nat} {r t : sg} {g : gm} (hM : MR E y ad r t g) (hIV : IV r) (a b d : Int32) : CM l yX3_place cX3_place 4 (some .int) ({ frames := 3, cells := 0, slots := 0, locals := 66 }) E [.ref (y), .int (a), .int (b), .int (d)] g (fun vv g' => vv = some (.int (Fplace r a b d).1) ∧ MR E y ad (Fplace r a b d).2 t g') := by
  refine CM.of (by decide) (Nat.le_of_ble_eq_true rfl) ?_
  intro p e s m below meth c ls hM hK hW hl
  obtain ⟨hx, hb, hr, hml, hown, hts, hlk, hnm⟩ := hM
  have hown : s.vm.findClass RX3 = some m.cls := hown
  have hl : lv_has ls 4 [(0, .ref (y)), (1, .int (a)), (2, .int (b)), (3, .int (d))] := hl
  refine lv_aload_n hx hb dX3_place_0 rfl (lv_at hl 0 rfl) ?_
  refine lv_iload_n hx hb dX3_place_1 rfl (lv_at hl 1 rfl) ?_
  refine c_virt (own := RX3) (As := [.int (a)]) (rest := []) hx hb hml hown hts hK hW (k_X3_isMessage l hM hIV.1 hIV.2.1 _) ml_RX3_97 im_yX3_isMessage se_yX3_isMessage in_RX3 cd_yX3_isMessage 1 (by decide +kernel) ⟨Nat.le_of_ble_eq_true rfl, Nat.le_of_ble_eq_true rfl⟩ hM.1 rfl rfl rfl hl.1 rfl (Nat.le_of_ble_eq_true rfl) dX3_place_2 ⟨Nat.le_of_ble_eq_true rfl, Nat.le_of_ble_eq_true rfl⟩ (fun v g2 H1 locs1 hp hW hKT => ?_)
  obtain ⟨rfl, hg⟩ := hp
  rw [hg] at hW
  refine W.eq (g2 := F0 m 5 ls [.int (bI (isMb r (a)))]) rfl ?_
  refine lv_if_eq (tgt := 21) hx hb dX3_place_5 (by decide) (fun c_375 => ?_) (fun c_375 => ?_)
  · skip
    have c_375 := (bI_eq0 _).mp c_375
    refine lv_bipush (v := -2) hx hb dX3_place_21 (by decide) ?_
    exact r_int hx hb hr hlk hW (by have e1 : Fplace r a b d = (-2, r) := (by first | (simp [Fplace, c_375]; done) | (simp_all [Fplace]; done)); rw [e1]; exact ⟨rfl, hM⟩) (Nat.le_of_ble_eq_true rfl) (Nat.le_of_ble_eq_true rfl) dX3_place_23
  · skip
    have c_375 := bI_ne0 c_375
    have hb_376 : ix (a) < 60 := by have := isMb_lt c_375; have := hIV.2.1; omega
    have hm := hIV.2.2.1 _ (isMb_lt c_375)
    refine lv_iload_n hx hb dX3_place_8 rfl (lv_at hl 3 rfl) ?_
    refine lv_iconst (v := -1) hx hb dX3_place_9 (by decide) ?_
    refine lv_icmp_eq (tgt := 24) hx hb dX3_place_10 (by decide) (fun c_377 => ?_) (fun c_377 => ?_)
    · skip
      refine lv_aload_n hx hb dX3_place_24 rfl (lv_at hl 0 rfl) ?_
      refine lv_iload_n hx hb dX3_place_25 rfl (lv_at hl 1 rfl) ?_
      refine c_virt (own := RX3) (As := [.int (a)]) (rest := []) hx hb hml hown hts hK hW (k_X3_isBundle l hM (i := ix (a)) ((nI_ix (isMb_nn c_375)).symm) (by omega)) ml_RX3_100 im_yX3_isBundle se_yX3_isBundle in_RX3 cd_yX3_isBundle 1 (by decide +kernel) ⟨Nat.le_of_ble_eq_true rfl, Nat.le_of_ble_eq_true rfl⟩ hM.1 rfl rfl rfl hl.1 rfl (Nat.le_of_ble_eq_true rfl) dX3_place_26 ⟨Nat.le_of_ble_eq_true rfl, Nat.le_of_ble_eq_true rfl⟩ (fun v g2 H1 locs1 hp hW hKT => ?_)
      obtain ⟨rfl, hg⟩ := hp
      rw [hg] at hW
      refine W.eq (g2 := F0 m 29 ls [.int (bI (bunB r (ix (a))))]) rfl ?_
      refine lv_if_eq (tgt := 57) hx hb dX3_place_29 (by decide) (fun c_378 => ?_) (fun c_378 => ?_)
      · skip
        have c_378 := (bI_eq0 _).mp c_378
        refine lv_bipush (v := -5) hx hb dX3_place_57 (by decide) ?_
        exact r_int hx hb hr hlk hW (by have e1 : Fplace r a b d = (-5, r) := (by simp only [Fplace, ← place_eq hm]; first | (simp [Fplace, c_375, c_377, c_378]; done) | (simp_all [Fplace]; done)); rw [e1]; exact ⟨rfl, hM⟩) (Nat.le_of_ble_eq_true rfl) (Nat.le_of_ble_eq_true rfl) dX3_place_59
      · skip
        have c_378 := bI_ne0 c_378
        refine lv_iload_n hx hb dX3_place_32 rfl (lv_at hl 2 rfl) ?_
        refine lv_iconst (v := 0) hx hb dX3_place_33 (by decide) ?_
        refine lv_aload_n hx hb dX3_place_34 rfl (lv_at hl 0 rfl) ?_
        refine m_get hx hb hts hown hK hW hM 4 (by decide) fl_RX3_19 (v := .ref (ad 3)) rfl dX3_place_35 ?_
        refine lv_iload_n hx hb dX3_place_38 rfl (lv_at hl 1 rfl) ?_
        refine m_iald 3 (j := ix (a)) (v := r 3 (ix (a))) hx hb hK hW hM (by decide) rfl ((nI_ix (isMb_nn c_375)).symm) (show ix (a) < 60 from by omega) rfl dX3_place_39 ?_
        refine lv_iconst (v := 1) hx hb dX3_place_40 (by decide) ?_
        refine lv_isub hx hb dX3_place_41 ?_
        refine c_stat (own := RX3) (As := [.int (b), .int (0), .int ((r 3 (ix (a))) - (1))]) (rest := []) hx hb hml hown hts hK hW (k_X3_in l _ _ _) ml_RX3_78 st_yX3_in in_RX3 cd_yX3_in 3 (by decide +kernel) ⟨Nat.le_of_ble_eq_true rfl, Nat.le_of_ble_eq_true rfl⟩ rfl hl.1 rfl (Nat.le_of_ble_eq_true rfl) dX3_place_42 ⟨Nat.le_of_ble_eq_true rfl, Nat.le_of_ble_eq_true rfl⟩ (fun v g2 H1 locs1 hp hW hKT => ?_)
        obtain ⟨rfl, hg⟩ := hp
        rw [hg] at hW
        refine W.eq (g2 := F0 m 45 ls [.int (bI (mIn (b) (0) ((r 3 (ix (a))) - (1))))]) rfl ?_
        refine lv_if_eq (tgt := 57) hx hb dX3_place_45 (by decide) (fun c_379 => ?_) (fun c_379 => ?_)
        · skip
          have c_379 := (bI_eq0 _).mp c_379
          refine lv_bipush (v := -5) hx hb dX3_place_57 (by decide) ?_
          exact r_int hx hb hr hlk hW (by have e1 : Fplace r a b d = (-5, r) := (by simp only [Fplace, ← place_eq hm]; first | (simp [Fplace, c_375, c_377, c_378, c_379]; done) | (simp_all [Fplace]; done)); rw [e1]; exact ⟨rfl, hM⟩) (Nat.le_of_ble_eq_true rfl) (Nat.le_of_ble_eq_true rfl) dX3_place_59
        · skip
          have c_379 := bI_ne0 c_379
          have hb_380 := inB_lt (by rw [← mIn_in hm.2.2.1 hm.2.2.2.1]; exact c_379) hm.2.2.1
          have hb_381 : ix (b) < 8 := Nat.lt_of_lt_of_le hb_380.2 hm.2.2.2.1
          refine lv_aload_n hx hb dX3_place_48 rfl (lv_at hl 0 rfl) ?_
          refine lv_iload_n hx hb dX3_place_49 rfl (lv_at hl 1 rfl) ?_
          refine lv_iload_n hx hb dX3_place_50 rfl (lv_at hl 3 rfl) ?_
          refine c_virt (own := RX3) (As := [.int (a), .int (d)]) (rest := []) hx hb hml hown hts hK hW (k_X3_holds l hM (i := ix (a)) ((nI_ix (isMb_nn c_375)).symm) (by omega) (Or.inl c_377)) ml_RX3_103 im_yX3_holds se_yX3_holds in_RX3 cd_yX3_holds 2 (by decide +kernel) ⟨Nat.le_of_ble_eq_true rfl, Nat.le_of_ble_eq_true rfl⟩ hM.1 rfl rfl rfl hl.1 rfl (Nat.le_of_ble_eq_true rfl) dX3_place_51 ⟨Nat.le_of_ble_eq_true rfl, Nat.le_of_ble_eq_true rfl⟩ (fun v g2 H1 locs1 hp hW hKT => ?_)
          obtain ⟨rfl, hg⟩ := hp
          rw [hg] at hW
          refine W.eq (g2 := F0 m 54 ls [.int (bI (holdB r (ix (a)) (d)))]) rfl ?_
          refine lv_if_ne (tgt := 60) hx hb dX3_place_54 (by decide) (fun c_382 => ?_) (fun c_382 => ?_)
          · skip
            have c_382 := bI_ne0 c_382
            refine lv_aload_n hx hb dX3_place_60 rfl (lv_at hl 0 rfl) ?_
            refine m_get hx hb hts hown hK hW hM 5 (by decide) fl_RX3_22 (v := .ref (ad 4)) rfl dX3_place_61 ?_
            refine lv_bipush (v := 8) hx hb dX3_place_64 (by decide) ?_
            refine lv_iload_n hx hb dX3_place_66 rfl (lv_at hl 1 rfl) ?_
            refine lv_imul hx hb dX3_place_67 ?_
            refine lv_iload_n hx hb dX3_place_68 rfl (lv_at hl 2 rfl) ?_
            refine lv_iadd hx hb dX3_place_69 ?_
            refine lv_iload_n hx hb dX3_place_70 rfl (lv_at hl 3 rfl) ?_
            refine m_iast 4 (j := 8 * (ix (a)) + (ix (b))) hx hb hK hW hM (by decide) rfl ((it_e ((nI_ix (isMb_nn c_375)).symm) ((nI_ix hb_380.1).symm))) (show 8 * (ix (a)) + (ix (b)) < 480 from by omega) dX3_place_71 (fun H1 locs1 g1 hW hM => ?_)
            refine lv_iconst (v := 1) hx hb dX3_place_72 (by decide) ?_
            exact r_int hx hb hr hlk hW (by have e1 : Fplace r a b d = (1, s2 r 4 (8 * (ix (a)) + (ix (b))) (d)) := (by simp only [Fplace, ← place_eq hm]; first | (simp [Fplace, c_375, c_377, c_378, c_379, c_382]; done) | (simp_all [Fplace]; done)); rw [e1]; exact ⟨rfl, hM⟩) (Nat.le_of_ble_eq_true rfl) (Nat.le_of_ble_eq_true rfl) dX3_place_73
          · skip
            have c_382 := (bI_eq0 _).mp c_382
            refine lv_bipush (v := -5) hx hb dX3_place_57 (by decide) ?_
            exact r_int hx hb hr hlk hW (by have e1 : Fplace r a b d = (-5, r) := (by simp only [Fplace, ← place_eq hm]; first | (simp [Fplace, c_375, c_377, c_378, c_379, c_382]; done) | (simp_all [Fplace]; done)); rw [e1]; exact ⟨rfl, hM⟩) (Nat.le_of_ble_eq_true rfl) (Nat.le_of_ble_eq_true rfl) dX3_place_59
    · skip
      refine lv_aload_n hx hb dX3_place_13 rfl (lv_at hl 0 rfl) ?_
      refine lv_iload_n hx hb dX3_place_14 rfl (lv_at hl 3 rfl) ?_
      refine c_virt (own := RX3) (As := [.int (d)]) (rest := []) hx hb hml hown hts hK hW (k_X3_isMessage l hM hIV.1 hIV.2.1 _) ml_RX3_97 im_yX3_isMessage se_yX3_isMessage in_RX3 cd_yX3_isMessage 1 (by decide +kernel) ⟨Nat.le_of_ble_eq_true rfl, Nat.le_of_ble_eq_true rfl⟩ hM.1 rfl rfl rfl hl.1 rfl (Nat.le_of_ble_eq_true rfl) dX3_place_15 ⟨Nat.le_of_ble_eq_true rfl, Nat.le_of_ble_eq_true rfl⟩ (fun v g2 H1 locs1 hp hW hKT => ?_)
      obtain ⟨rfl, hg⟩ := hp
      rw [hg] at hW
      refine W.eq (g2 := F0 m 18 ls [.int (bI (isMb r (d)))]) rfl ?_
      refine lv_if_ne (tgt := 24) hx hb dX3_place_18 (by decide) (fun c_383 => ?_) (fun c_383 => ?_)
      · skip
        have c_383 := bI_ne0 c_383
        have hb_384 : ix (d) < 60 := by have := isMb_lt c_383; have := hIV.2.1; omega
        refine lv_aload_n hx hb dX3_place_24 rfl (lv_at hl 0 rfl) ?_
        refine lv_iload_n hx hb dX3_place_25 rfl (lv_at hl 1 rfl) ?_
        refine c_virt (own := RX3) (As := [.int (a)]) (rest := []) hx hb hml hown hts hK hW (k_X3_isBundle l hM (i := ix (a)) ((nI_ix (isMb_nn c_375)).symm) (by omega)) ml_RX3_100 im_yX3_isBundle se_yX3_isBundle in_RX3 cd_yX3_isBundle 1 (by decide +kernel) ⟨Nat.le_of_ble_eq_true rfl, Nat.le_of_ble_eq_true rfl⟩ hM.1 rfl rfl rfl hl.1 rfl (Nat.le_of_ble_eq_true rfl) dX3_place_26 ⟨Nat.le_of_ble_eq_true rfl, Nat.le_of_ble_eq_true rfl⟩ (fun v g2 H1 locs1 hp hW hKT => ?_)
        obtain ⟨rfl, hg⟩ := hp
        rw [hg] at hW
        refine W.eq (g2 := F0 m 29 ls [.int (bI (bunB r (ix (a))))]) rfl ?_
        refine lv_if_eq (tgt := 57) hx hb dX3_place_29 (by decide) (fun c_385 => ?_) (fun c_385 => ?_)
        · skip
          have c_385 := (bI_eq0 _).mp c_385
          refine lv_bipush (v := -5) hx hb dX3_place_57 (by decide) ?_
          exact r_int hx hb hr hlk hW (by have e1 : Fplace r a b d = (-5, r) := (by simp only [Fplace, ← place_eq hm]; first | (simp [Fplace, c_375, c_377, c_383, c_385]; done) | (simp_all [Fplace]; done)); rw [e1]; exact ⟨rfl, hM⟩) (Nat.le_of_ble_eq_true rfl) (Nat.le_of_ble_eq_true rfl) dX3_place_59
        · skip
          have c_385 := bI_ne0 c_385
          refine lv_iload_n hx hb dX3_place_32 rfl (lv_at hl 2 rfl) ?_
          refine lv_iconst (v := 0) hx hb dX3_place_33 (by decide) ?_
          refine lv_aload_n hx hb dX3_place_34 rfl (lv_at hl 0 rfl) ?_
          refine m_get hx hb hts hown hK hW hM 4 (by decide) fl_RX3_19 (v := .ref (ad 3)) rfl dX3_place_35 ?_
          refine lv_iload_n hx hb dX3_place_38 rfl (lv_at hl 1 rfl) ?_
          refine m_iald 3 (j := ix (a)) (v := r 3 (ix (a))) hx hb hK hW hM (by decide) rfl ((nI_ix (isMb_nn c_375)).symm) (show ix (a) < 60 from by omega) rfl dX3_place_39 ?_
          refine lv_iconst (v := 1) hx hb dX3_place_40 (by decide) ?_
          refine lv_isub hx hb dX3_place_41 ?_
          refine c_stat (own := RX3) (As := [.int (b), .int (0), .int ((r 3 (ix (a))) - (1))]) (rest := []) hx hb hml hown hts hK hW (k_X3_in l _ _ _) ml_RX3_78 st_yX3_in in_RX3 cd_yX3_in 3 (by decide +kernel) ⟨Nat.le_of_ble_eq_true rfl, Nat.le_of_ble_eq_true rfl⟩ rfl hl.1 rfl (Nat.le_of_ble_eq_true rfl) dX3_place_42 ⟨Nat.le_of_ble_eq_true rfl, Nat.le_of_ble_eq_true rfl⟩ (fun v g2 H1 locs1 hp hW hKT => ?_)
          obtain ⟨rfl, hg⟩ := hp
          rw [hg] at hW
          refine W.eq (g2 := F0 m 45 ls [.int (bI (mIn (b) (0) ((r 3 (ix (a))) - (1))))]) rfl ?_
          refine lv_if_eq (tgt := 57) hx hb dX3_place_45 (by decide) (fun c_386 => ?_) (fun c_386 => ?_)
          · skip
            have c_386 := (bI_eq0 _).mp c_386
            refine lv_bipush (v := -5) hx hb dX3_place_57 (by decide) ?_
            exact r_int hx hb hr hlk hW (by have e1 : Fplace r a b d = (-5, r) := (by simp only [Fplace, ← place_eq hm]; first | (simp [Fplace, c_375, c_377, c_383, c_385, c_386]; done) | (simp_all [Fplace]; done)); rw [e1]; exact ⟨rfl, hM⟩) (Nat.le_of_ble_eq_true rfl) (Nat.le_of_ble_eq_true rfl) dX3_place_59
          · skip
            have c_386 := bI_ne0 c_386
            have hb_387 := inB_lt (by rw [← mIn_in hm.2.2.1 hm.2.2.2.1]; exact c_386) hm.2.2.1
            have hb_388 : ix (b) < 8 := Nat.lt_of_lt_of_le hb_387.2 hm.2.2.2.1
            refine lv_aload_n hx hb dX3_place_48 rfl (lv_at hl 0 rfl) ?_
            refine lv_iload_n hx hb dX3_place_49 rfl (lv_at hl 1 rfl) ?_
            refine lv_iload_n hx hb dX3_place_50 rfl (lv_at hl 3 rfl) ?_
            refine c_virt (own := RX3) (As := [.int (a), .int (d)]) (rest := []) hx hb hml hown hts hK hW (k_X3_holds l hM (i := ix (a)) ((nI_ix (isMb_nn c_375)).symm) (by omega) (Or.inr ⟨isMb_nn c_383, by omega⟩)) ml_RX3_103 im_yX3_holds se_yX3_holds in_RX3 cd_yX3_holds 2 (by decide +kernel) ⟨Nat.le_of_ble_eq_true rfl, Nat.le_of_ble_eq_true rfl⟩ hM.1 rfl rfl rfl hl.1 rfl (Nat.le_of_ble_eq_true rfl) dX3_place_51 ⟨Nat.le_of_ble_eq_true rfl, Nat.le_of_ble_eq_true rfl⟩ (fun v g2 H1 locs1 hp hW hKT => ?_)
            obtain ⟨rfl, hg⟩ := hp
            rw [hg] at hW
            refine W.eq (g2 := F0 m 54 ls [.int (bI (holdB r (ix (a)) (d)))]) rfl ?_
            refine lv_if_ne (tgt := 60) hx hb dX3_place_54 (by decide) (fun c_389 => ?_) (fun c_389 => ?_)
            · skip
              have c_389 := bI_ne0 c_389
              refine lv_aload_n hx hb dX3_place_60 rfl (lv_at hl 0 rfl) ?_
              refine m_get hx hb hts hown hK hW hM 5 (by decide) fl_RX3_22 (v := .ref (ad 4)) rfl dX3_place_61 ?_
              refine lv_bipush (v := 8) hx hb dX3_place_64 (by decide) ?_
              refine lv_iload_n hx hb dX3_place_66 rfl (lv_at hl 1 rfl) ?_
              refine lv_imul hx hb dX3_place_67 ?_
              refine lv_iload_n hx hb dX3_place_68 rfl (lv_at hl 2 rfl) ?_
              refine lv_iadd hx hb dX3_place_69 ?_
              refine lv_iload_n hx hb dX3_place_70 rfl (lv_at hl 3 rfl) ?_
              refine m_iast 4 (j := 8 * (ix (a)) + (ix (b))) hx hb hK hW hM (by decide) rfl ((it_e ((nI_ix (isMb_nn c_375)).symm) ((nI_ix hb_387.1).symm))) (show 8 * (ix (a)) + (ix (b)) < 480 from by omega) dX3_place_71 (fun H1 locs1 g1 hW hM => ?_)
              refine lv_iconst (v := 1) hx hb dX3_place_72 (by decide) ?_
              exact r_int hx hb hr hlk hW (by have e1 : Fplace r a b d = (1, s2 r 4 (8 * (ix (a)) + (ix (b))) (d)) := (by simp only [Fplace, ← place_eq hm]; first | (simp [Fplace, c_375, c_377, c_383, c_385, c_386, c_389]; done) | (simp_all [Fplace]; done)); rw [e1]; exact ⟨rfl, hM⟩) (Nat.le_of_ble_eq_true rfl) (Nat.le_of_ble_eq_true rfl) dX3_place_73
            · skip
              have c_389 := (bI_eq0 _).mp c_389
              refine lv_bipush (v := -5) hx hb dX3_place_57 (by decide) ?_
              exact r_int hx hb hr hlk hW (by have e1 : Fplace r a b d = (-5, r) := (by simp only [Fplace, ← place_eq hm]; first | (simp [Fplace, c_375, c_377, c_383, c_385, c_386, c_389]; done) | (simp_all [Fplace]; done)); rw [e1]; exact ⟨rfl, hM⟩) (Nat.le_of_ble_eq_true rfl) (Nat.le_of_ble_eq_true rfl) dX3_place_59
      · skip
        have c_383 := (bI_eq0 _).mp c_383
        refine lv_bipush (v := -2) hx hb dX3_place_21 (by decide) ?_
        exact r_int hx hb hr hlk hW (by have e1 : Fplace r a b d = (-2, r) := (by simp only [Fplace, ← place_eq hm]; first | (simp [Fplace, c_375, c_377, c_383]; done) | (simp_all [Fplace]; done)); rw [e1]; exact ⟨rfl, hM⟩) (Nat.le_of_ble_eq_true rfl) (Nat.le_of_ble_eq_true rfl) dX3_place_23

set_option maxHeartbeats 4000000 in
set_option maxRecDepth 100000 in
theorem k_X3_figure (l : Launch) {E : gE} {y : Nat} {ad : Nat → Nat} {r t : sg} {g : gm} (hM : MR E y ad r t g) (hIV : IV r) (a b d : Int32) : CM l yX3_figure cX3_figure 4 (some .int) ({ frames := 2, cells := 0, slots := 0, locals := 43 }) E [.ref (y), .int (a), .int (b), .int (d)] g (fun vv g' => vv = some (.int (Ffigure r a b d).1) ∧ MR E y ad (Ffigure r a b d).2 t g') := by
  refine CM.of (by decide) (Nat.le_of_ble_eq_true rfl) ?_
  intro p e s m below meth c ls hM hK hW hl
  obtain ⟨hx, hb, hr, hml, hown, hts, hlk, hnm⟩ := hM
  have hown : s.vm.findClass RX3 = some m.cls := hown
  have hl : lv_has ls 4 [(0, .ref (y)), (1, .int (a)), (2, .int (b)), (3, .int (d))] := hl
  refine lv_aload_n hx hb dX3_figure_0 rfl (lv_at hl 0 rfl) ?_
  refine lv_iload_n hx hb dX3_figure_1 rfl (lv_at hl 1 rfl) ?_
  refine c_virt (own := RX3) (As := [.int (a)]) (rest := []) hx hb hml hown hts hK hW (k_X3_isMessage l hM hIV.1 hIV.2.1 _) ml_RX3_97 im_yX3_isMessage se_yX3_isMessage in_RX3 cd_yX3_isMessage 1 (by decide +kernel) ⟨Nat.le_of_ble_eq_true rfl, Nat.le_of_ble_eq_true rfl⟩ hM.1 rfl rfl rfl hl.1 rfl (Nat.le_of_ble_eq_true rfl) dX3_figure_2 ⟨Nat.le_of_ble_eq_true rfl, Nat.le_of_ble_eq_true rfl⟩ (fun v g2 H1 locs1 hp hW hKT => ?_)
  obtain ⟨rfl, hg⟩ := hp
  rw [hg] at hW
  refine W.eq (g2 := F0 m 5 ls [.int (bI (isMb r (a)))]) rfl ?_
  refine lv_if_ne (tgt := 11) hx hb dX3_figure_5 (by decide) (fun c_390 => ?_) (fun c_390 => ?_)
  · skip
    have c_390 := bI_ne0 c_390
    have hb_391 : ix (a) < 60 := by have := isMb_lt c_390; have := hIV.2.1; omega
    have hm := hIV.2.2.1 _ (isMb_lt c_390)
    refine lv_aload_n hx hb dX3_figure_11 rfl (lv_at hl 0 rfl) ?_
    refine lv_iload_n hx hb dX3_figure_12 rfl (lv_at hl 1 rfl) ?_
    refine c_virt (own := RX3) (As := [.int (a)]) (rest := []) hx hb hml hown hts hK hW (k_X3_isFigures l hM (i := ix (a)) ((nI_ix (isMb_nn c_390)).symm) (by omega)) ml_RX3_86 im_yX3_isFigures se_yX3_isFigures in_RX3 cd_yX3_isFigures 1 (by decide +kernel) ⟨Nat.le_of_ble_eq_true rfl, Nat.le_of_ble_eq_true rfl⟩ hM.1 rfl rfl rfl hl.1 rfl (Nat.le_of_ble_eq_true rfl) dX3_figure_13 ⟨Nat.le_of_ble_eq_true rfl, Nat.le_of_ble_eq_true rfl⟩ (fun v g2 H1 locs1 hp hW hKT => ?_)
    obtain ⟨rfl, hg⟩ := hp
    rw [hg] at hW
    refine W.eq (g2 := F0 m 16 ls [.int (bI (figB (r 0 (ix (a))) (r 1 (ix (a)))))]) rfl ?_
    refine lv_if_eq (tgt := 35) hx hb dX3_figure_16 (by decide) (fun c_392 => ?_) (fun c_392 => ?_)
    · skip
      have c_392 := (bI_eq0 _).mp c_392
      refine lv_bipush (v := -5) hx hb dX3_figure_35 (by decide) ?_
      exact r_int hx hb hr hlk hW (by have e1 : Ffigure r a b d = (-5, r) := (by simp only [Ffigure, ← num_eq hm]; first | (simp [Ffigure, c_390, c_392]; done) | (simp_all [Ffigure]; done)); rw [e1]; exact ⟨rfl, hM⟩) (Nat.le_of_ble_eq_true rfl) (Nat.le_of_ble_eq_true rfl) dX3_figure_37
    · skip
      have c_392 := bI_ne0 c_392
      refine lv_iload_n hx hb dX3_figure_19 rfl (lv_at hl 2 rfl) ?_
      refine lv_iconst (v := 0) hx hb dX3_figure_20 (by decide) ?_
      refine lv_aload_n hx hb dX3_figure_21 rfl (lv_at hl 0 rfl) ?_
      refine m_get hx hb hts hown hK hW hM 4 (by decide) fl_RX3_19 (v := .ref (ad 3)) rfl dX3_figure_22 ?_
      refine lv_iload_n hx hb dX3_figure_25 rfl (lv_at hl 1 rfl) ?_
      refine m_iald 3 (j := ix (a)) (v := r 3 (ix (a))) hx hb hK hW hM (by decide) rfl ((nI_ix (isMb_nn c_390)).symm) (show ix (a) < 60 from by omega) rfl dX3_figure_26 ?_
      refine lv_iconst (v := 1) hx hb dX3_figure_27 (by decide) ?_
      refine lv_isub hx hb dX3_figure_28 ?_
      refine c_stat (own := RX3) (As := [.int (b), .int (0), .int ((r 3 (ix (a))) - (1))]) (rest := []) hx hb hml hown hts hK hW (k_X3_in l _ _ _) ml_RX3_78 st_yX3_in in_RX3 cd_yX3_in 3 (by decide +kernel) ⟨Nat.le_of_ble_eq_true rfl, Nat.le_of_ble_eq_true rfl⟩ rfl hl.1 rfl (Nat.le_of_ble_eq_true rfl) dX3_figure_29 ⟨Nat.le_of_ble_eq_true rfl, Nat.le_of_ble_eq_true rfl⟩ (fun v g2 H1 locs1 hp hW hKT => ?_)
      obtain ⟨rfl, hg⟩ := hp
      rw [hg] at hW
      refine W.eq (g2 := F0 m 32 ls [.int (bI (mIn (b) (0) ((r 3 (ix (a))) - (1))))]) rfl ?_
      refine lv_if_ne (tgt := 38) hx hb dX3_figure_32 (by decide) (fun c_393 => ?_) (fun c_393 => ?_)
      · skip
        have c_393 := bI_ne0 c_393
        have hb_394 := inB_lt (by rw [← mIn_in hm.2.2.1 hm.2.2.2.1]; exact c_393) hm.2.2.1
        have hb_395 : ix (b) < 8 := Nat.lt_of_lt_of_le hb_394.2 hm.2.2.2.1
        refine lv_aload_n hx hb dX3_figure_38 rfl (lv_at hl 0 rfl) ?_
        refine m_get hx hb hts hown hK hW hM 5 (by decide) fl_RX3_22 (v := .ref (ad 4)) rfl dX3_figure_39 ?_
        refine lv_bipush (v := 8) hx hb dX3_figure_42 (by decide) ?_
        refine lv_iload_n hx hb dX3_figure_44 rfl (lv_at hl 1 rfl) ?_
        refine lv_imul hx hb dX3_figure_45 ?_
        refine lv_iload_n hx hb dX3_figure_46 rfl (lv_at hl 2 rfl) ?_
        refine lv_iadd hx hb dX3_figure_47 ?_
        refine lv_aload_n hx hb dX3_figure_48 rfl (lv_at hl 0 rfl) ?_
        refine m_get hx hb hts hown hK hW hM 1 (by decide) fl_RX3_7 (v := .ref (ad 0)) rfl dX3_figure_49 ?_
        refine lv_iload_n hx hb dX3_figure_52 rfl (lv_at hl 1 rfl) ?_
        refine m_iald 0 (j := ix (a)) (v := r 0 (ix (a))) hx hb hK hW hM (by decide) rfl ((nI_ix (isMb_nn c_390)).symm) (show ix (a) < 60 from by omega) rfl dX3_figure_53 ?_
        refine lv_iload_n hx hb dX3_figure_54 rfl (lv_at hl 3 rfl) ?_
        refine c_stat (own := RX3) (As := [.int (r 0 (ix (a))), .int (d)]) (rest := [.int (((8) * (a)) + (b)), .ref (ad 4)]) hx hb hml hown hts hK hW (k_X3_cut l _ _) ml_RX3_107 st_yX3_cut in_RX3 cd_yX3_cut 2 (by decide +kernel) ⟨Nat.le_of_ble_eq_true rfl, Nat.le_of_ble_eq_true rfl⟩ rfl hl.1 rfl (Nat.le_of_ble_eq_true rfl) dX3_figure_55 ⟨Nat.le_of_ble_eq_true rfl, Nat.le_of_ble_eq_true rfl⟩ (fun v g2 H1 locs1 hp hW hKT => ?_)
        obtain ⟨rfl, hg⟩ := hp
        rw [hg] at hW
        refine W.eq (g2 := F0 m 58 ls [.int (lowI (r 0 (ix (a))) (d)), .int (((8) * (a)) + (b)), .ref (ad 4)]) rfl ?_
        refine m_iast 4 (j := 8 * (ix (a)) + (ix (b))) hx hb hK hW hM (by decide) rfl ((it_e ((nI_ix (isMb_nn c_390)).symm) ((nI_ix hb_394.1).symm))) (show 8 * (ix (a)) + (ix (b)) < 480 from by omega) dX3_figure_58 (fun H1 locs1 g1 hW hM => ?_)
        refine lv_iconst (v := 1) hx hb dX3_figure_59 (by decide) ?_
        exact r_int hx hb hr hlk hW (by have e1 : Ffigure r a b d = (1, s2 r 4 (8 * (ix (a)) + (ix (b))) (lowI (r 0 (ix (a))) (d))) := (by simp only [Ffigure, ← num_eq hm]; first | (simp [Ffigure, c_390, c_392, c_393]; done) | (simp_all [Ffigure]; done)); rw [e1]; exact ⟨rfl, hM⟩) (Nat.le_of_ble_eq_true rfl) (Nat.le_of_ble_eq_true rfl) dX3_figure_60
      · skip
        have c_393 := (bI_eq0 _).mp c_393
        refine lv_bipush (v := -5) hx hb dX3_figure_35 (by decide) ?_
        exact r_int hx hb hr hlk hW (by have e1 : Ffigure r a b d = (-5, r) := (by simp only [Ffigure, ← num_eq hm]; first | (simp [Ffigure, c_390, c_392, c_393]; done) | (simp_all [Ffigure]; done)); rw [e1]; exact ⟨rfl, hM⟩) (Nat.le_of_ble_eq_true rfl) (Nat.le_of_ble_eq_true rfl) dX3_figure_37
  · skip
    have c_390 := (bI_eq0 _).mp c_390
    refine lv_bipush (v := -2) hx hb dX3_figure_8 (by decide) ?_
    exact r_int hx hb hr hlk hW (by have e1 : Ffigure r a b d = (-2, r) := (by first | (simp [Ffigure, c_390]; done) | (simp_all [Ffigure]; done)); rw [e1]; exact ⟨rfl, hM⟩) (Nat.le_of_ble_eq_true rfl) (Nat.le_of_ble_eq_true rfl) dX3_figure_10

set_option maxHeartbeats 4000000 in
set_option maxRecDepth 100000 in
theorem k_X3_shut (l : Launch) {E : gE} {y : Nat} {ad : Nat → Nat} {r t : sg} {g : gm} (hM : MR E y ad r t g) (hIV : IV r) (a : Int32) (b : Bool) : CM l yX3_shut cX3_shut 4 (some .int) ({ frames := 2, cells := 0, slots := 0, locals := 43 }) E [.ref (y), .int (a), .int (bI b)] g (fun vv g' => vv = some (.int (Fshut r a b).1) ∧ MR E y ad (Fshut r a b).2 t g') := by
  refine CM.of (by decide) (Nat.le_of_ble_eq_true rfl) ?_
  intro p e s m below meth c ls hM hK hW hl
  obtain ⟨hx, hb, hr, hml, hown, hts, hlk, hnm⟩ := hM
  have hown : s.vm.findClass RX3 = some m.cls := hown
  have hl : lv_has ls 4 [(0, .ref (y)), (1, .int (a)), (2, .int (bI b))] := hl
  refine lv_aload_n hx hb dX3_shut_0 rfl (lv_at hl 0 rfl) ?_
  refine lv_iload_n hx hb dX3_shut_1 rfl (lv_at hl 1 rfl) ?_
  refine c_virt (own := RX3) (As := [.int (a)]) (rest := []) hx hb hml hown hts hK hW (k_X3_isCounter l hM _) ml_RX3_114 im_yX3_isCounter se_yX3_isCounter in_RX3 cd_yX3_isCounter 1 (by decide +kernel) ⟨Nat.le_of_ble_eq_true rfl, Nat.le_of_ble_eq_true rfl⟩ hM.1 rfl rfl rfl hl.1 rfl (Nat.le_of_ble_eq_true rfl) dX3_shut_2 ⟨Nat.le_of_ble_eq_true rfl, Nat.le_of_ble_eq_true rfl⟩ (fun v g2 H1 locs1 hp hW hKT => ?_)
  obtain ⟨rfl, hg⟩ := hp
  rw [hg] at hW
  refine W.eq (g2 := F0 m 5 ls [.int (bI (isCb r (a)))]) rfl ?_
  refine lv_if_ne (tgt := 11) hx hb dX3_shut_5 (by decide) (fun c_396 => ?_) (fun c_396 => ?_)
  · skip
    have c_396 := bI_ne0 c_396
    have hb_397 : ix (a) < 8 := isCb_lt c_396
    refine lv_aload_n hx hb dX3_shut_11 rfl (lv_at hl 0 rfl) ?_
    refine m_get hx hb hts hown hK hW hM 7 (by decide) fl_RX3_29 (v := .ref (ad 6)) rfl dX3_shut_12 ?_
    refine lv_iload_n hx hb dX3_shut_15 rfl (lv_at hl 1 rfl) ?_
    refine m_zald 6 (j := ix (a)) (v := r 6 (ix (a))) hx hb hK hW hM (by decide) rfl ((nI_ix (isCb_nn c_396)).symm) (show ix (a) < 8 from by omega) rfl dX3_shut_16 ?_
    refine lv_if_eq (tgt := 24) hx hb dX3_shut_17 (by decide) (fun c_398 => ?_) (fun c_398 => ?_)
    · skip
      refine lv_iconst (v := 0) hx hb dX3_shut_24 (by decide) ?_
      refine lv_istore_n (lv' := [(3, .int (0)), (0, .ref (y)), (1, .int (a)), (2, .int (bI b))]) hx hb dX3_shut_25 rfl hl (by decide) rfl (fun ls hl => ?_)
      refine lv_aload_n hx hb dX3_shut_26 rfl (lv_at hl 1 rfl) ?_
      refine m_get hx hb hts hown hK hW hM 7 (by decide) fl_RX3_29 (v := .ref (ad 6)) rfl dX3_shut_27 ?_
      refine lv_iload_n hx hb dX3_shut_30 rfl (lv_at hl 2 rfl) ?_
      refine lv_iload_n hx hb dX3_shut_31 rfl (lv_at hl 3 rfl) ?_
      refine m_zast 6 (j := ix (a)) hx hb hK hW hM (by decide) rfl ((nI_ix (isCb_nn c_396)).symm) (show ix (a) < 8 from by omega) (nr_bI _) dX3_shut_32 (fun H1 locs1 g1 hW hM => ?_)
      refine lv_iload_n hx hb dX3_shut_33 rfl (lv_at hl 0 rfl) ?_
      exact r_int hx hb hr hlk hW (by have e1 : Fshut r a b = (0, s2 r 6 (ix (a)) (bI b)) := (by first | (simp [Fshut, asI, c_396, c_398]; done) | (simp_all [Fshut, asI]; done)); rw [e1]; exact ⟨rfl, hM⟩) (Nat.le_of_ble_eq_true rfl) (Nat.le_of_ble_eq_true rfl) dX3_shut_34
    · skip
      refine lv_iconst (v := 1) hx hb dX3_shut_20 (by decide) ?_
      refine lv_goto (tgt := 25) hx hb dX3_shut_21 (by decide) ?_
      refine lv_istore_n (lv' := [(3, .int (1)), (0, .ref (y)), (1, .int (a)), (2, .int (bI b))]) hx hb dX3_shut_25 rfl hl (by decide) rfl (fun ls hl => ?_)
      refine lv_aload_n hx hb dX3_shut_26 rfl (lv_at hl 1 rfl) ?_
      refine m_get hx hb hts hown hK hW hM 7 (by decide) fl_RX3_29 (v := .ref (ad 6)) rfl dX3_shut_27 ?_
      refine lv_iload_n hx hb dX3_shut_30 rfl (lv_at hl 2 rfl) ?_
      refine lv_iload_n hx hb dX3_shut_31 rfl (lv_at hl 3 rfl) ?_
      refine m_zast 6 (j := ix (a)) hx hb hK hW hM (by decide) rfl ((nI_ix (isCb_nn c_396)).symm) (show ix (a) < 8 from by omega) (nr_bI _) dX3_shut_32 (fun H1 locs1 g1 hW hM => ?_)
      refine lv_iload_n hx hb dX3_shut_33 rfl (lv_at hl 0 rfl) ?_
      exact r_int hx hb hr hlk hW (by have e1 : Fshut r a b = (1, s2 r 6 (ix (a)) (bI b)) := (by first | (simp [Fshut, asI, c_396, c_398]; done) | (simp_all [Fshut, asI]; done)); rw [e1]; exact ⟨rfl, hM⟩) (Nat.le_of_ble_eq_true rfl) (Nat.le_of_ble_eq_true rfl) dX3_shut_34
  · skip
    have c_396 := (bI_eq0 _).mp c_396
    refine lv_bipush (v := -2) hx hb dX3_shut_8 (by decide) ?_
    exact r_int hx hb hr hlk hW (by have e1 : Fshut r a b = (-2, r) := (by first | (simp [Fshut, asI, c_396]; done) | (simp_all [Fshut, asI]; done)); rw [e1]; exact ⟨rfl, hM⟩) (Nat.le_of_ble_eq_true rfl) (Nat.le_of_ble_eq_true rfl) dX3_shut_10

theorem mIn1 (q : Int32) : (!decide (q < 0) && !decide (1 < q)) = mIn q 0 1 := rfl

set_option maxHeartbeats 4000000 in
set_option maxRecDepth 100000 in
theorem k_X3_job (l : Launch) {E : gE} {y : Nat} {ad : Nat → Nat} {r t : sg} {g : gm} (hM : MR E y ad r t g) (hIV : IV r) (a b d f q : Int32) : CM l yX3_job cX3_job 6 (some .int) ({ frames := 2, cells := 0, slots := 0, locals := 43 }) E [.ref (y), .int (a), .int (b), .int (d), .int (f), .int (q)] g (fun vv g' => vv = some (.int (Fjob r a b d f q).1) ∧ MR E y ad (Fjob r a b d f q).2 t g') := by
  refine CM.of (by decide) (Nat.le_of_ble_eq_true rfl) ?_
  intro p e s m below meth c ls hM hK hW hl
  obtain ⟨hx, hb, hr, hml, hown, hts, hlk, hnm⟩ := hM
  have hown : s.vm.findClass RX3 = some m.cls := hown
  have hl : lv_has ls 6 [(0, .ref (y)), (1, .int (a)), (2, .int (b)), (3, .int (d)), (4, .int (f)), (5, .int (q))] := hl
  refine lv_aload_n hx hb dX3_job_0 rfl (lv_at hl 0 rfl) ?_
  refine lv_iload_n hx hb dX3_job_1 rfl (lv_at hl 1 rfl) ?_
  refine c_virt (own := RX3) (As := [.int (a)]) (rest := []) hx hb hml hown hts hK hW (k_X3_isCounter l hM _) ml_RX3_114 im_yX3_isCounter se_yX3_isCounter in_RX3 cd_yX3_isCounter 1 (by decide +kernel) ⟨Nat.le_of_ble_eq_true rfl, Nat.le_of_ble_eq_true rfl⟩ hM.1 rfl rfl rfl hl.1 rfl (Nat.le_of_ble_eq_true rfl) dX3_job_2 ⟨Nat.le_of_ble_eq_true rfl, Nat.le_of_ble_eq_true rfl⟩ (fun v g2 H1 locs1 hp hW hKT => ?_)
  obtain ⟨rfl, hg⟩ := hp
  rw [hg] at hW
  refine W.eq (g2 := F0 m 5 ls [.int (bI (isCb r (a)))]) rfl ?_
  refine lv_if_eq (tgt := 42) hx hb dX3_job_5 (by decide) (fun c_399 => ?_) (fun c_399 => ?_)
  · skip
    have c_399 := (bI_eq0 _).mp c_399
    refine lv_bipush (v := -2) hx hb dX3_job_42 (by decide) ?_
    exact r_int hx hb hr hlk hW (by have e1 : Fjob r a b d f q = (-2, r) := (by first | (simp [Fjob, mIn1, lt4, c_399]; done) | (simp_all [Fjob, mIn1, lt4]; done)); rw [e1]; exact ⟨rfl, hM⟩) (Nat.le_of_ble_eq_true rfl) (Nat.le_of_ble_eq_true rfl) dX3_job_44
  · skip
    have c_399 := bI_ne0 c_399
    have hb_400 : ix (a) < 8 := isCb_lt c_399
    have hca := can_eq (hIV.2.2.2 _ (isCb_lt c_399)).2.1.2 b
    refine lv_iload_n hx hb dX3_job_8 rfl (lv_at hl 2 rfl) ?_
    refine lv_iconst (v := 0) hx hb dX3_job_9 (by decide) ?_
    refine lv_iconst (v := 5) hx hb dX3_job_10 (by decide) ?_
    refine c_stat (own := RX3) (As := [.int (b), .int (0), .int (5)]) (rest := []) hx hb hml hown hts hK hW (k_X3_in l _ _ _) ml_RX3_78 st_yX3_in in_RX3 cd_yX3_in 3 (by decide +kernel) ⟨Nat.le_of_ble_eq_true rfl, Nat.le_of_ble_eq_true rfl⟩ rfl hl.1 rfl (Nat.le_of_ble_eq_true rfl) dX3_job_11 ⟨Nat.le_of_ble_eq_true rfl, Nat.le_of_ble_eq_true rfl⟩ (fun v g2 H1 locs1 hp hW hKT => ?_)
    obtain ⟨rfl, hg⟩ := hp
    rw [hg] at hW
    refine W.eq (g2 := F0 m 14 ls [.int (bI (mIn (b) (0) (5)))]) rfl ?_
    refine lv_if_eq (tgt := 42) hx hb dX3_job_14 (by decide) (fun c_401 => ?_) (fun c_401 => ?_)
    · skip
      have c_401 := (bI_eq0 _).mp c_401
      refine lv_bipush (v := -2) hx hb dX3_job_42 (by decide) ?_
      exact r_int hx hb hr hlk hW (by have e1 : Fjob r a b d f q = (-2, r) := (by simp only [Fjob, ← hca]; first | (simp [Fjob, mIn1, lt4, c_399, c_401]; done) | (simp_all [Fjob, mIn1, lt4]; done)); rw [e1]; exact ⟨rfl, hM⟩) (Nat.le_of_ble_eq_true rfl) (Nat.le_of_ble_eq_true rfl) dX3_job_44
    · skip
      have c_401 := bI_ne0 c_401
      refine lv_iload hx hb dX3_job_17 (lv_at hl 4 rfl) ?_
      refine lv_iconst (v := -1) hx hb dX3_job_19 (by decide) ?_
      refine lv_icmp_eq (tgt := 32) hx hb dX3_job_20 (by decide) (fun c_402 => ?_) (fun c_402 => ?_)
      · skip
        refine lv_iload hx hb dX3_job_32 (lv_at hl 5 rfl) ?_
        refine lv_iconst (v := 0) hx hb dX3_job_34 (by decide) ?_
        refine lv_iconst (v := 1) hx hb dX3_job_35 (by decide) ?_
        refine c_stat (own := RX3) (As := [.int (q), .int (0), .int (1)]) (rest := []) hx hb hml hown hts hK hW (k_X3_in l _ _ _) ml_RX3_78 st_yX3_in in_RX3 cd_yX3_in 3 (by decide +kernel) ⟨Nat.le_of_ble_eq_true rfl, Nat.le_of_ble_eq_true rfl⟩ rfl hl.1 rfl (Nat.le_of_ble_eq_true rfl) dX3_job_36 ⟨Nat.le_of_ble_eq_true rfl, Nat.le_of_ble_eq_true rfl⟩ (fun v g2 H1 locs1 hp hW hKT => ?_)
        obtain ⟨rfl, hg⟩ := hp
        rw [hg] at hW
        refine W.eq (g2 := F0 m 39 ls [.int (bI (mIn (q) (0) (1)))]) rfl ?_
        refine lv_if_ne (tgt := 45) hx hb dX3_job_39 (by decide) (fun c_403 => ?_) (fun c_403 => ?_)
        · skip
          have c_403 := bI_ne0 c_403
          refine lv_iload_n hx hb dX3_job_45 rfl (lv_at hl 2 rfl) ?_
          refine lv_iconst (v := 2) hx hb dX3_job_46 (by decide) ?_
          refine lv_iconst (v := 4) hx hb dX3_job_47 (by decide) ?_
          refine c_stat (own := RX3) (As := [.int (b), .int (2), .int (4)]) (rest := []) hx hb hml hown hts hK hW (k_X3_in l _ _ _) ml_RX3_78 st_yX3_in in_RX3 cd_yX3_in 3 (by decide +kernel) ⟨Nat.le_of_ble_eq_true rfl, Nat.le_of_ble_eq_true rfl⟩ rfl hl.1 rfl (Nat.le_of_ble_eq_true rfl) dX3_job_48 ⟨Nat.le_of_ble_eq_true rfl, Nat.le_of_ble_eq_true rfl⟩ (fun v g2 H1 locs1 hp hW hKT => ?_)
          obtain ⟨rfl, hg⟩ := hp
          rw [hg] at hW
          refine W.eq (g2 := F0 m 51 ls [.int (bI (mIn (b) (2) (4)))]) rfl ?_
          refine lv_if_eq (tgt := 86) hx hb dX3_job_51 (by decide) (fun c_404 => ?_) (fun c_404 => ?_)
          · skip
            have c_404 := (bI_eq0 _).mp c_404
            refine lv_aload_n hx hb dX3_job_86 rfl (lv_at hl 0 rfl) ?_
            refine m_get hx hb hts hown hK hW hM 13 (by decide) fl_RX3_47 (v := .ref (ad 12)) rfl dX3_job_87 ?_
            refine lv_iload_n hx hb dX3_job_90 rfl (lv_at hl 1 rfl) ?_
            refine lv_iload_n hx hb dX3_job_91 rfl (lv_at hl 2 rfl) ?_
            refine m_iast 12 (j := ix (a)) hx hb hK hW hM (by decide) rfl ((nI_ix (isCb_nn c_399)).symm) (show ix (a) < 8 from by omega) dX3_job_92 (fun H1 locs1 g1 hW hM => ?_)
            refine lv_aload_n hx hb dX3_job_93 rfl (lv_at hl 0 rfl) ?_
            refine m_get hx hb hts hown hK hW hM 14 (by decide) fl_RX3_50 (v := .ref (ad 13)) rfl dX3_job_94 ?_
            refine lv_iload_n hx hb dX3_job_97 rfl (lv_at hl 1 rfl) ?_
            refine lv_iload_n hx hb dX3_job_98 rfl (lv_at hl 3 rfl) ?_
            refine m_iast 13 (j := ix (a)) hx hb hK hW hM (by decide) rfl ((nI_ix (isCb_nn c_399)).symm) (show ix (a) < 8 from by omega) dX3_job_99 (fun H1 locs1 g1 hW hM => ?_)
            refine lv_aload_n hx hb dX3_job_100 rfl (lv_at hl 0 rfl) ?_
            refine m_get hx hb hts hown hK hW hM 15 (by decide) fl_RX3_53 (v := .ref (ad 14)) rfl dX3_job_101 ?_
            refine lv_iload_n hx hb dX3_job_104 rfl (lv_at hl 1 rfl) ?_
            refine lv_iload hx hb dX3_job_105 (lv_at hl 4 rfl) ?_
            refine m_iast 14 (j := ix (a)) hx hb hK hW hM (by decide) rfl ((nI_ix (isCb_nn c_399)).symm) (show ix (a) < 8 from by omega) dX3_job_107 (fun H1 locs1 g1 hW hM => ?_)
            refine lv_aload_n hx hb dX3_job_108 rfl (lv_at hl 0 rfl) ?_
            refine m_get hx hb hts hown hK hW hM 8 (by decide) fl_RX3_32 (v := .ref (ad 7)) rfl dX3_job_109 ?_
            refine lv_iload_n hx hb dX3_job_112 rfl (lv_at hl 1 rfl) ?_
            refine lv_iload hx hb dX3_job_113 (lv_at hl 5 rfl) ?_
            refine lv_iconst (v := 1) hx hb dX3_job_115 (by decide) ?_
            refine lv_icmp_ne (tgt := 123) hx hb dX3_job_116 (by decide) (fun c_405 => ?_) (fun c_405 => ?_)
            · skip
              refine lv_iconst (v := 0) hx hb dX3_job_123 (by decide) ?_
              refine m_zast 7 (j := ix (a)) hx hb hK hW hM (by decide) rfl ((nI_ix (isCb_nn c_399)).symm) (show ix (a) < 8 from by omega) rfl dX3_job_124 (fun H1 locs1 g1 hW hM => ?_)
              refine lv_iconst (v := 1) hx hb dX3_job_125 (by decide) ?_
              exact r_int hx hb hr hlk hW (by have e1 : Fjob r a b d f q = (1, s2 (s2 (s2 (s2 r 12 (ix (a)) (b)) 13 (ix (a)) (d)) 14 (ix (a)) (f)) 7 (ix (a)) (0)) := (by simp only [Fjob, ← hca]; first | (simp [Fjob, mIn1, lt4, c_399, c_401, c_402, c_403, c_404, c_405]; done) | (simp_all [Fjob, mIn1, lt4]; done)); rw [e1]; exact ⟨rfl, hM⟩) (Nat.le_of_ble_eq_true rfl) (Nat.le_of_ble_eq_true rfl) dX3_job_126
            · skip
              refine lv_iconst (v := 1) hx hb dX3_job_119 (by decide) ?_
              refine lv_goto (tgt := 124) hx hb dX3_job_120 (by decide) ?_
              refine m_zast 7 (j := ix (a)) hx hb hK hW hM (by decide) rfl ((nI_ix (isCb_nn c_399)).symm) (show ix (a) < 8 from by omega) rfl dX3_job_124 (fun H1 locs1 g1 hW hM => ?_)
              refine lv_iconst (v := 1) hx hb dX3_job_125 (by decide) ?_
              exact r_int hx hb hr hlk hW (by have e1 : Fjob r a b d f q = (1, s2 (s2 (s2 (s2 r 12 (ix (a)) (b)) 13 (ix (a)) (d)) 14 (ix (a)) (f)) 7 (ix (a)) (1)) := (by simp only [Fjob, ← hca]; first | (simp [Fjob, mIn1, lt4, c_399, c_401, c_402, c_403, c_404, c_405]; done) | (simp_all [Fjob, mIn1, lt4]; done)); rw [e1]; exact ⟨rfl, hM⟩) (Nat.le_of_ble_eq_true rfl) (Nat.le_of_ble_eq_true rfl) dX3_job_126
          · skip
            have c_404 := bI_ne0 c_404
            refine lv_aload_n hx hb dX3_job_54 rfl (lv_at hl 0 rfl) ?_
            refine m_get hx hb hts hown hK hW hM 12 (by decide) fl_RX3_44 (v := .ref (ad 11)) rfl dX3_job_55 ?_
            refine lv_iload_n hx hb dX3_job_58 rfl (lv_at hl 1 rfl) ?_
            refine m_iald 11 (j := ix (a)) (v := r 11 (ix (a))) hx hb hK hW hM (by decide) rfl ((nI_ix (isCb_nn c_399)).symm) (show ix (a) < 8 from by omega) rfl dX3_job_59 ?_
            refine lv_if_eq (tgt := 83) hx hb dX3_job_60 (by decide) (fun c_406 => ?_) (fun c_406 => ?_)
            · skip
              refine lv_bipush (v := -2) hx hb dX3_job_83 (by decide) ?_
              exact r_int hx hb hr hlk hW (by have e1 : Fjob r a b d f q = (-2, r) := (by simp only [Fjob, ← hca]; first | (simp [Fjob, mIn1, lt4, c_399, c_401, c_402, c_403, c_404, c_406]; done) | (simp_all [Fjob, mIn1, lt4]; done)); rw [e1]; exact ⟨rfl, hM⟩) (Nat.le_of_ble_eq_true rfl) (Nat.le_of_ble_eq_true rfl) dX3_job_85
            · skip
              refine lv_aload_n hx hb dX3_job_63 rfl (lv_at hl 0 rfl) ?_
              refine m_get hx hb hts hown hK hW hM 11 (by decide) fl_RX3_41 (v := .ref (ad 10)) rfl dX3_job_64 ?_
              refine lv_iload_n hx hb dX3_job_67 rfl (lv_at hl 1 rfl) ?_
              refine m_iald 10 (j := ix (a)) (v := r 10 (ix (a))) hx hb hK hW hM (by decide) rfl ((nI_ix (isCb_nn c_399)).symm) (show ix (a) < 8 from by omega) rfl dX3_job_68 ?_
              refine lv_iconst (v := 3) hx hb dX3_job_69 (by decide) ?_
              refine lv_icmp_le (tgt := 86) hx hb dX3_job_70 (by decide) (fun c_407 => ?_) (fun c_407 => ?_)
              · skip
                have c_407 := Int32.not_lt.mpr c_407
                refine lv_aload_n hx hb dX3_job_86 rfl (lv_at hl 0 rfl) ?_
                refine m_get hx hb hts hown hK hW hM 13 (by decide) fl_RX3_47 (v := .ref (ad 12)) rfl dX3_job_87 ?_
                refine lv_iload_n hx hb dX3_job_90 rfl (lv_at hl 1 rfl) ?_
                refine lv_iload_n hx hb dX3_job_91 rfl (lv_at hl 2 rfl) ?_
                refine m_iast 12 (j := ix (a)) hx hb hK hW hM (by decide) rfl ((nI_ix (isCb_nn c_399)).symm) (show ix (a) < 8 from by omega) dX3_job_92 (fun H1 locs1 g1 hW hM => ?_)
                refine lv_aload_n hx hb dX3_job_93 rfl (lv_at hl 0 rfl) ?_
                refine m_get hx hb hts hown hK hW hM 14 (by decide) fl_RX3_50 (v := .ref (ad 13)) rfl dX3_job_94 ?_
                refine lv_iload_n hx hb dX3_job_97 rfl (lv_at hl 1 rfl) ?_
                refine lv_iload_n hx hb dX3_job_98 rfl (lv_at hl 3 rfl) ?_
                refine m_iast 13 (j := ix (a)) hx hb hK hW hM (by decide) rfl ((nI_ix (isCb_nn c_399)).symm) (show ix (a) < 8 from by omega) dX3_job_99 (fun H1 locs1 g1 hW hM => ?_)
                refine lv_aload_n hx hb dX3_job_100 rfl (lv_at hl 0 rfl) ?_
                refine m_get hx hb hts hown hK hW hM 15 (by decide) fl_RX3_53 (v := .ref (ad 14)) rfl dX3_job_101 ?_
                refine lv_iload_n hx hb dX3_job_104 rfl (lv_at hl 1 rfl) ?_
                refine lv_iload hx hb dX3_job_105 (lv_at hl 4 rfl) ?_
                refine m_iast 14 (j := ix (a)) hx hb hK hW hM (by decide) rfl ((nI_ix (isCb_nn c_399)).symm) (show ix (a) < 8 from by omega) dX3_job_107 (fun H1 locs1 g1 hW hM => ?_)
                refine lv_aload_n hx hb dX3_job_108 rfl (lv_at hl 0 rfl) ?_
                refine m_get hx hb hts hown hK hW hM 8 (by decide) fl_RX3_32 (v := .ref (ad 7)) rfl dX3_job_109 ?_
                refine lv_iload_n hx hb dX3_job_112 rfl (lv_at hl 1 rfl) ?_
                refine lv_iload hx hb dX3_job_113 (lv_at hl 5 rfl) ?_
                refine lv_iconst (v := 1) hx hb dX3_job_115 (by decide) ?_
                refine lv_icmp_ne (tgt := 123) hx hb dX3_job_116 (by decide) (fun c_408 => ?_) (fun c_408 => ?_)
                · skip
                  refine lv_iconst (v := 0) hx hb dX3_job_123 (by decide) ?_
                  refine m_zast 7 (j := ix (a)) hx hb hK hW hM (by decide) rfl ((nI_ix (isCb_nn c_399)).symm) (show ix (a) < 8 from by omega) rfl dX3_job_124 (fun H1 locs1 g1 hW hM => ?_)
                  refine lv_iconst (v := 1) hx hb dX3_job_125 (by decide) ?_
                  exact r_int hx hb hr hlk hW (by have e1 : Fjob r a b d f q = (1, s2 (s2 (s2 (s2 r 12 (ix (a)) (b)) 13 (ix (a)) (d)) 14 (ix (a)) (f)) 7 (ix (a)) (0)) := (by simp only [Fjob, ← hca]; first | (simp [Fjob, mIn1, lt4, c_399, c_401, c_402, c_403, c_404, c_406, c_407, c_408]; done) | (simp_all [Fjob, mIn1, lt4]; done)); rw [e1]; exact ⟨rfl, hM⟩) (Nat.le_of_ble_eq_true rfl) (Nat.le_of_ble_eq_true rfl) dX3_job_126
                · skip
                  refine lv_iconst (v := 1) hx hb dX3_job_119 (by decide) ?_
                  refine lv_goto (tgt := 124) hx hb dX3_job_120 (by decide) ?_
                  refine m_zast 7 (j := ix (a)) hx hb hK hW hM (by decide) rfl ((nI_ix (isCb_nn c_399)).symm) (show ix (a) < 8 from by omega) rfl dX3_job_124 (fun H1 locs1 g1 hW hM => ?_)
                  refine lv_iconst (v := 1) hx hb dX3_job_125 (by decide) ?_
                  exact r_int hx hb hr hlk hW (by have e1 : Fjob r a b d f q = (1, s2 (s2 (s2 (s2 r 12 (ix (a)) (b)) 13 (ix (a)) (d)) 14 (ix (a)) (f)) 7 (ix (a)) (1)) := (by simp only [Fjob, ← hca]; first | (simp [Fjob, mIn1, lt4, c_399, c_401, c_402, c_403, c_404, c_406, c_407, c_408]; done) | (simp_all [Fjob, mIn1, lt4]; done)); rw [e1]; exact ⟨rfl, hM⟩) (Nat.le_of_ble_eq_true rfl) (Nat.le_of_ble_eq_true rfl) dX3_job_126
              · skip
                have c_407 := Int32.not_le.mp c_407
                refine lv_aload_n hx hb dX3_job_73 rfl (lv_at hl 0 rfl) ?_
                refine m_get hx hb hts hown hK hW hM 12 (by decide) fl_RX3_44 (v := .ref (ad 11)) rfl dX3_job_74 ?_
                refine lv_iload_n hx hb dX3_job_77 rfl (lv_at hl 1 rfl) ?_
                refine m_iald 11 (j := ix (a)) (v := r 11 (ix (a))) hx hb hK hW hM (by decide) rfl ((nI_ix (isCb_nn c_399)).symm) (show ix (a) < 8 from by omega) rfl dX3_job_78 ?_
                refine lv_iconst (v := 1) hx hb dX3_job_79 (by decide) ?_
                refine lv_icmp_ne (tgt := 86) hx hb dX3_job_80 (by decide) (fun c_409 => ?_) (fun c_409 => ?_)
                · skip
                  refine lv_aload_n hx hb dX3_job_86 rfl (lv_at hl 0 rfl) ?_
                  refine m_get hx hb hts hown hK hW hM 13 (by decide) fl_RX3_47 (v := .ref (ad 12)) rfl dX3_job_87 ?_
                  refine lv_iload_n hx hb dX3_job_90 rfl (lv_at hl 1 rfl) ?_
                  refine lv_iload_n hx hb dX3_job_91 rfl (lv_at hl 2 rfl) ?_
                  refine m_iast 12 (j := ix (a)) hx hb hK hW hM (by decide) rfl ((nI_ix (isCb_nn c_399)).symm) (show ix (a) < 8 from by omega) dX3_job_92 (fun H1 locs1 g1 hW hM => ?_)
                  refine lv_aload_n hx hb dX3_job_93 rfl (lv_at hl 0 rfl) ?_
                  refine m_get hx hb hts hown hK hW hM 14 (by decide) fl_RX3_50 (v := .ref (ad 13)) rfl dX3_job_94 ?_
                  refine lv_iload_n hx hb dX3_job_97 rfl (lv_at hl 1 rfl) ?_
                  refine lv_iload_n hx hb dX3_job_98 rfl (lv_at hl 3 rfl) ?_
                  refine m_iast 13 (j := ix (a)) hx hb hK hW hM (by decide) rfl ((nI_ix (isCb_nn c_399)).symm) (show ix (a) < 8 from by omega) dX3_job_99 (fun H1 locs1 g1 hW hM => ?_)
                  refine lv_aload_n hx hb dX3_job_100 rfl (lv_at hl 0 rfl) ?_
                  refine m_get hx hb hts hown hK hW hM 15 (by decide) fl_RX3_53 (v := .ref (ad 14)) rfl dX3_job_101 ?_
                  refine lv_iload_n hx hb dX3_job_104 rfl (lv_at hl 1 rfl) ?_
                  refine lv_iload hx hb dX3_job_105 (lv_at hl 4 rfl) ?_
                  refine m_iast 14 (j := ix (a)) hx hb hK hW hM (by decide) rfl ((nI_ix (isCb_nn c_399)).symm) (show ix (a) < 8 from by omega) dX3_job_107 (fun H1 locs1 g1 hW hM => ?_)
                  refine lv_aload_n hx hb dX3_job_108 rfl (lv_at hl 0 rfl) ?_
                  refine m_get hx hb hts hown hK hW hM 8 (by decide) fl_RX3_32 (v := .ref (ad 7)) rfl dX3_job_109 ?_
                  refine lv_iload_n hx hb dX3_job_112 rfl (lv_at hl 1 rfl) ?_
                  refine lv_iload hx hb dX3_job_113 (lv_at hl 5 rfl) ?_
                  refine lv_iconst (v := 1) hx hb dX3_job_115 (by decide) ?_
                  refine lv_icmp_ne (tgt := 123) hx hb dX3_job_116 (by decide) (fun c_410 => ?_) (fun c_410 => ?_)
                  · skip
                    refine lv_iconst (v := 0) hx hb dX3_job_123 (by decide) ?_
                    refine m_zast 7 (j := ix (a)) hx hb hK hW hM (by decide) rfl ((nI_ix (isCb_nn c_399)).symm) (show ix (a) < 8 from by omega) rfl dX3_job_124 (fun H1 locs1 g1 hW hM => ?_)
                    refine lv_iconst (v := 1) hx hb dX3_job_125 (by decide) ?_
                    exact r_int hx hb hr hlk hW (by have e1 : Fjob r a b d f q = (1, s2 (s2 (s2 (s2 r 12 (ix (a)) (b)) 13 (ix (a)) (d)) 14 (ix (a)) (f)) 7 (ix (a)) (0)) := (by simp only [Fjob, ← hca]; first | (simp [Fjob, mIn1, lt4, c_399, c_401, c_402, c_403, c_404, c_406, c_407, c_409, c_410]; done) | (simp_all [Fjob, mIn1, lt4]; done)); rw [e1]; exact ⟨rfl, hM⟩) (Nat.le_of_ble_eq_true rfl) (Nat.le_of_ble_eq_true rfl) dX3_job_126
                  · skip
                    refine lv_iconst (v := 1) hx hb dX3_job_119 (by decide) ?_
                    refine lv_goto (tgt := 124) hx hb dX3_job_120 (by decide) ?_
                    refine m_zast 7 (j := ix (a)) hx hb hK hW hM (by decide) rfl ((nI_ix (isCb_nn c_399)).symm) (show ix (a) < 8 from by omega) rfl dX3_job_124 (fun H1 locs1 g1 hW hM => ?_)
                    refine lv_iconst (v := 1) hx hb dX3_job_125 (by decide) ?_
                    exact r_int hx hb hr hlk hW (by have e1 : Fjob r a b d f q = (1, s2 (s2 (s2 (s2 r 12 (ix (a)) (b)) 13 (ix (a)) (d)) 14 (ix (a)) (f)) 7 (ix (a)) (1)) := (by simp only [Fjob, ← hca]; first | (simp [Fjob, mIn1, lt4, c_399, c_401, c_402, c_403, c_404, c_406, c_407, c_409, c_410]; done) | (simp_all [Fjob, mIn1, lt4]; done)); rw [e1]; exact ⟨rfl, hM⟩) (Nat.le_of_ble_eq_true rfl) (Nat.le_of_ble_eq_true rfl) dX3_job_126
                · skip
                  refine lv_bipush (v := -2) hx hb dX3_job_83 (by decide) ?_
                  exact r_int hx hb hr hlk hW (by have e1 : Fjob r a b d f q = (-2, r) := (by simp only [Fjob, ← hca]; first | (simp [Fjob, mIn1, lt4, c_399, c_401, c_402, c_403, c_404, c_406, c_407, c_409]; done) | (simp_all [Fjob, mIn1, lt4]; done)); rw [e1]; exact ⟨rfl, hM⟩) (Nat.le_of_ble_eq_true rfl) (Nat.le_of_ble_eq_true rfl) dX3_job_85
        · skip
          have c_403 := (bI_eq0 _).mp c_403
          refine lv_bipush (v := -2) hx hb dX3_job_42 (by decide) ?_
          exact r_int hx hb hr hlk hW (by have e1 : Fjob r a b d f q = (-2, r) := (by simp only [Fjob, ← hca]; first | (simp [Fjob, mIn1, lt4, c_399, c_401, c_402, c_403]; done) | (simp_all [Fjob, mIn1, lt4]; done)); rw [e1]; exact ⟨rfl, hM⟩) (Nat.le_of_ble_eq_true rfl) (Nat.le_of_ble_eq_true rfl) dX3_job_44
      · skip
        refine lv_aload_n hx hb dX3_job_23 rfl (lv_at hl 0 rfl) ?_
        refine lv_iload hx hb dX3_job_24 (lv_at hl 4 rfl) ?_
        refine c_virt (own := RX3) (As := [.int (f)]) (rest := []) hx hb hml hown hts hK hW (k_X3_isMessage l hM hIV.1 hIV.2.1 _) ml_RX3_97 im_yX3_isMessage se_yX3_isMessage in_RX3 cd_yX3_isMessage 1 (by decide +kernel) ⟨Nat.le_of_ble_eq_true rfl, Nat.le_of_ble_eq_true rfl⟩ hM.1 rfl rfl rfl hl.1 rfl (Nat.le_of_ble_eq_true rfl) dX3_job_26 ⟨Nat.le_of_ble_eq_true rfl, Nat.le_of_ble_eq_true rfl⟩ (fun v g2 H1 locs1 hp hW hKT => ?_)
        obtain ⟨rfl, hg⟩ := hp
        rw [hg] at hW
        refine W.eq (g2 := F0 m 29 ls [.int (bI (isMb r (f)))]) rfl ?_
        refine lv_if_eq (tgt := 42) hx hb dX3_job_29 (by decide) (fun c_411 => ?_) (fun c_411 => ?_)
        · skip
          have c_411 := (bI_eq0 _).mp c_411
          refine lv_bipush (v := -2) hx hb dX3_job_42 (by decide) ?_
          exact r_int hx hb hr hlk hW (by have e1 : Fjob r a b d f q = (-2, r) := (by simp only [Fjob, ← hca]; first | (simp [Fjob, mIn1, lt4, c_399, c_401, c_402, c_411]; done) | (simp_all [Fjob, mIn1, lt4]; done)); rw [e1]; exact ⟨rfl, hM⟩) (Nat.le_of_ble_eq_true rfl) (Nat.le_of_ble_eq_true rfl) dX3_job_44
        · skip
          have c_411 := bI_ne0 c_411
          have hb_412 : ix (f) < 60 := by have := isMb_lt c_411; have := hIV.2.1; omega
          refine lv_iload hx hb dX3_job_32 (lv_at hl 5 rfl) ?_
          refine lv_iconst (v := 0) hx hb dX3_job_34 (by decide) ?_
          refine lv_iconst (v := 1) hx hb dX3_job_35 (by decide) ?_
          refine c_stat (own := RX3) (As := [.int (q), .int (0), .int (1)]) (rest := []) hx hb hml hown hts hK hW (k_X3_in l _ _ _) ml_RX3_78 st_yX3_in in_RX3 cd_yX3_in 3 (by decide +kernel) ⟨Nat.le_of_ble_eq_true rfl, Nat.le_of_ble_eq_true rfl⟩ rfl hl.1 rfl (Nat.le_of_ble_eq_true rfl) dX3_job_36 ⟨Nat.le_of_ble_eq_true rfl, Nat.le_of_ble_eq_true rfl⟩ (fun v g2 H1 locs1 hp hW hKT => ?_)
          obtain ⟨rfl, hg⟩ := hp
          rw [hg] at hW
          refine W.eq (g2 := F0 m 39 ls [.int (bI (mIn (q) (0) (1)))]) rfl ?_
          refine lv_if_ne (tgt := 45) hx hb dX3_job_39 (by decide) (fun c_413 => ?_) (fun c_413 => ?_)
          · skip
            have c_413 := bI_ne0 c_413
            refine lv_iload_n hx hb dX3_job_45 rfl (lv_at hl 2 rfl) ?_
            refine lv_iconst (v := 2) hx hb dX3_job_46 (by decide) ?_
            refine lv_iconst (v := 4) hx hb dX3_job_47 (by decide) ?_
            refine c_stat (own := RX3) (As := [.int (b), .int (2), .int (4)]) (rest := []) hx hb hml hown hts hK hW (k_X3_in l _ _ _) ml_RX3_78 st_yX3_in in_RX3 cd_yX3_in 3 (by decide +kernel) ⟨Nat.le_of_ble_eq_true rfl, Nat.le_of_ble_eq_true rfl⟩ rfl hl.1 rfl (Nat.le_of_ble_eq_true rfl) dX3_job_48 ⟨Nat.le_of_ble_eq_true rfl, Nat.le_of_ble_eq_true rfl⟩ (fun v g2 H1 locs1 hp hW hKT => ?_)
            obtain ⟨rfl, hg⟩ := hp
            rw [hg] at hW
            refine W.eq (g2 := F0 m 51 ls [.int (bI (mIn (b) (2) (4)))]) rfl ?_
            refine lv_if_eq (tgt := 86) hx hb dX3_job_51 (by decide) (fun c_414 => ?_) (fun c_414 => ?_)
            · skip
              have c_414 := (bI_eq0 _).mp c_414
              refine lv_aload_n hx hb dX3_job_86 rfl (lv_at hl 0 rfl) ?_
              refine m_get hx hb hts hown hK hW hM 13 (by decide) fl_RX3_47 (v := .ref (ad 12)) rfl dX3_job_87 ?_
              refine lv_iload_n hx hb dX3_job_90 rfl (lv_at hl 1 rfl) ?_
              refine lv_iload_n hx hb dX3_job_91 rfl (lv_at hl 2 rfl) ?_
              refine m_iast 12 (j := ix (a)) hx hb hK hW hM (by decide) rfl ((nI_ix (isCb_nn c_399)).symm) (show ix (a) < 8 from by omega) dX3_job_92 (fun H1 locs1 g1 hW hM => ?_)
              refine lv_aload_n hx hb dX3_job_93 rfl (lv_at hl 0 rfl) ?_
              refine m_get hx hb hts hown hK hW hM 14 (by decide) fl_RX3_50 (v := .ref (ad 13)) rfl dX3_job_94 ?_
              refine lv_iload_n hx hb dX3_job_97 rfl (lv_at hl 1 rfl) ?_
              refine lv_iload_n hx hb dX3_job_98 rfl (lv_at hl 3 rfl) ?_
              refine m_iast 13 (j := ix (a)) hx hb hK hW hM (by decide) rfl ((nI_ix (isCb_nn c_399)).symm) (show ix (a) < 8 from by omega) dX3_job_99 (fun H1 locs1 g1 hW hM => ?_)
              refine lv_aload_n hx hb dX3_job_100 rfl (lv_at hl 0 rfl) ?_
              refine m_get hx hb hts hown hK hW hM 15 (by decide) fl_RX3_53 (v := .ref (ad 14)) rfl dX3_job_101 ?_
              refine lv_iload_n hx hb dX3_job_104 rfl (lv_at hl 1 rfl) ?_
              refine lv_iload hx hb dX3_job_105 (lv_at hl 4 rfl) ?_
              refine m_iast 14 (j := ix (a)) hx hb hK hW hM (by decide) rfl ((nI_ix (isCb_nn c_399)).symm) (show ix (a) < 8 from by omega) dX3_job_107 (fun H1 locs1 g1 hW hM => ?_)
              refine lv_aload_n hx hb dX3_job_108 rfl (lv_at hl 0 rfl) ?_
              refine m_get hx hb hts hown hK hW hM 8 (by decide) fl_RX3_32 (v := .ref (ad 7)) rfl dX3_job_109 ?_
              refine lv_iload_n hx hb dX3_job_112 rfl (lv_at hl 1 rfl) ?_
              refine lv_iload hx hb dX3_job_113 (lv_at hl 5 rfl) ?_
              refine lv_iconst (v := 1) hx hb dX3_job_115 (by decide) ?_
              refine lv_icmp_ne (tgt := 123) hx hb dX3_job_116 (by decide) (fun c_415 => ?_) (fun c_415 => ?_)
              · skip
                refine lv_iconst (v := 0) hx hb dX3_job_123 (by decide) ?_
                refine m_zast 7 (j := ix (a)) hx hb hK hW hM (by decide) rfl ((nI_ix (isCb_nn c_399)).symm) (show ix (a) < 8 from by omega) rfl dX3_job_124 (fun H1 locs1 g1 hW hM => ?_)
                refine lv_iconst (v := 1) hx hb dX3_job_125 (by decide) ?_
                exact r_int hx hb hr hlk hW (by have e1 : Fjob r a b d f q = (1, s2 (s2 (s2 (s2 r 12 (ix (a)) (b)) 13 (ix (a)) (d)) 14 (ix (a)) (f)) 7 (ix (a)) (0)) := (by simp only [Fjob, ← hca]; first | (simp [Fjob, mIn1, lt4, c_399, c_401, c_402, c_411, c_413, c_414, c_415]; done) | (simp_all [Fjob, mIn1, lt4]; done)); rw [e1]; exact ⟨rfl, hM⟩) (Nat.le_of_ble_eq_true rfl) (Nat.le_of_ble_eq_true rfl) dX3_job_126
              · skip
                refine lv_iconst (v := 1) hx hb dX3_job_119 (by decide) ?_
                refine lv_goto (tgt := 124) hx hb dX3_job_120 (by decide) ?_
                refine m_zast 7 (j := ix (a)) hx hb hK hW hM (by decide) rfl ((nI_ix (isCb_nn c_399)).symm) (show ix (a) < 8 from by omega) rfl dX3_job_124 (fun H1 locs1 g1 hW hM => ?_)
                refine lv_iconst (v := 1) hx hb dX3_job_125 (by decide) ?_
                exact r_int hx hb hr hlk hW (by have e1 : Fjob r a b d f q = (1, s2 (s2 (s2 (s2 r 12 (ix (a)) (b)) 13 (ix (a)) (d)) 14 (ix (a)) (f)) 7 (ix (a)) (1)) := (by simp only [Fjob, ← hca]; first | (simp [Fjob, mIn1, lt4, c_399, c_401, c_402, c_411, c_413, c_414, c_415]; done) | (simp_all [Fjob, mIn1, lt4]; done)); rw [e1]; exact ⟨rfl, hM⟩) (Nat.le_of_ble_eq_true rfl) (Nat.le_of_ble_eq_true rfl) dX3_job_126
            · skip
              have c_414 := bI_ne0 c_414
              refine lv_aload_n hx hb dX3_job_54 rfl (lv_at hl 0 rfl) ?_
              refine m_get hx hb hts hown hK hW hM 12 (by decide) fl_RX3_44 (v := .ref (ad 11)) rfl dX3_job_55 ?_
              refine lv_iload_n hx hb dX3_job_58 rfl (lv_at hl 1 rfl) ?_
              refine m_iald 11 (j := ix (a)) (v := r 11 (ix (a))) hx hb hK hW hM (by decide) rfl ((nI_ix (isCb_nn c_399)).symm) (show ix (a) < 8 from by omega) rfl dX3_job_59 ?_
              refine lv_if_eq (tgt := 83) hx hb dX3_job_60 (by decide) (fun c_416 => ?_) (fun c_416 => ?_)
              · skip
                refine lv_bipush (v := -2) hx hb dX3_job_83 (by decide) ?_
                exact r_int hx hb hr hlk hW (by have e1 : Fjob r a b d f q = (-2, r) := (by simp only [Fjob, ← hca]; first | (simp [Fjob, mIn1, lt4, c_399, c_401, c_402, c_411, c_413, c_414, c_416]; done) | (simp_all [Fjob, mIn1, lt4]; done)); rw [e1]; exact ⟨rfl, hM⟩) (Nat.le_of_ble_eq_true rfl) (Nat.le_of_ble_eq_true rfl) dX3_job_85
              · skip
                refine lv_aload_n hx hb dX3_job_63 rfl (lv_at hl 0 rfl) ?_
                refine m_get hx hb hts hown hK hW hM 11 (by decide) fl_RX3_41 (v := .ref (ad 10)) rfl dX3_job_64 ?_
                refine lv_iload_n hx hb dX3_job_67 rfl (lv_at hl 1 rfl) ?_
                refine m_iald 10 (j := ix (a)) (v := r 10 (ix (a))) hx hb hK hW hM (by decide) rfl ((nI_ix (isCb_nn c_399)).symm) (show ix (a) < 8 from by omega) rfl dX3_job_68 ?_
                refine lv_iconst (v := 3) hx hb dX3_job_69 (by decide) ?_
                refine lv_icmp_le (tgt := 86) hx hb dX3_job_70 (by decide) (fun c_417 => ?_) (fun c_417 => ?_)
                · skip
                  have c_417 := Int32.not_lt.mpr c_417
                  refine lv_aload_n hx hb dX3_job_86 rfl (lv_at hl 0 rfl) ?_
                  refine m_get hx hb hts hown hK hW hM 13 (by decide) fl_RX3_47 (v := .ref (ad 12)) rfl dX3_job_87 ?_
                  refine lv_iload_n hx hb dX3_job_90 rfl (lv_at hl 1 rfl) ?_
                  refine lv_iload_n hx hb dX3_job_91 rfl (lv_at hl 2 rfl) ?_
                  refine m_iast 12 (j := ix (a)) hx hb hK hW hM (by decide) rfl ((nI_ix (isCb_nn c_399)).symm) (show ix (a) < 8 from by omega) dX3_job_92 (fun H1 locs1 g1 hW hM => ?_)
                  refine lv_aload_n hx hb dX3_job_93 rfl (lv_at hl 0 rfl) ?_
                  refine m_get hx hb hts hown hK hW hM 14 (by decide) fl_RX3_50 (v := .ref (ad 13)) rfl dX3_job_94 ?_
                  refine lv_iload_n hx hb dX3_job_97 rfl (lv_at hl 1 rfl) ?_
                  refine lv_iload_n hx hb dX3_job_98 rfl (lv_at hl 3 rfl) ?_
                  refine m_iast 13 (j := ix (a)) hx hb hK hW hM (by decide) rfl ((nI_ix (isCb_nn c_399)).symm) (show ix (a) < 8 from by omega) dX3_job_99 (fun H1 locs1 g1 hW hM => ?_)
                  refine lv_aload_n hx hb dX3_job_100 rfl (lv_at hl 0 rfl) ?_
                  refine m_get hx hb hts hown hK hW hM 15 (by decide) fl_RX3_53 (v := .ref (ad 14)) rfl dX3_job_101 ?_
                  refine lv_iload_n hx hb dX3_job_104 rfl (lv_at hl 1 rfl) ?_
                  refine lv_iload hx hb dX3_job_105 (lv_at hl 4 rfl) ?_
                  refine m_iast 14 (j := ix (a)) hx hb hK hW hM (by decide) rfl ((nI_ix (isCb_nn c_399)).symm) (show ix (a) < 8 from by omega) dX3_job_107 (fun H1 locs1 g1 hW hM => ?_)
                  refine lv_aload_n hx hb dX3_job_108 rfl (lv_at hl 0 rfl) ?_
                  refine m_get hx hb hts hown hK hW hM 8 (by decide) fl_RX3_32 (v := .ref (ad 7)) rfl dX3_job_109 ?_
                  refine lv_iload_n hx hb dX3_job_112 rfl (lv_at hl 1 rfl) ?_
                  refine lv_iload hx hb dX3_job_113 (lv_at hl 5 rfl) ?_
                  refine lv_iconst (v := 1) hx hb dX3_job_115 (by decide) ?_
                  refine lv_icmp_ne (tgt := 123) hx hb dX3_job_116 (by decide) (fun c_418 => ?_) (fun c_418 => ?_)
                  · skip
                    refine lv_iconst (v := 0) hx hb dX3_job_123 (by decide) ?_
                    refine m_zast 7 (j := ix (a)) hx hb hK hW hM (by decide) rfl ((nI_ix (isCb_nn c_399)).symm) (show ix (a) < 8 from by omega) rfl dX3_job_124 (fun H1 locs1 g1 hW hM => ?_)
                    refine lv_iconst (v := 1) hx hb dX3_job_125 (by decide) ?_
                    exact r_int hx hb hr hlk hW (by have e1 : Fjob r a b d f q = (1, s2 (s2 (s2 (s2 r 12 (ix (a)) (b)) 13 (ix (a)) (d)) 14 (ix (a)) (f)) 7 (ix (a)) (0)) := (by simp only [Fjob, ← hca]; first | (simp [Fjob, mIn1, lt4, c_399, c_401, c_402, c_411, c_413, c_414, c_416, c_417, c_418]; done) | (simp_all [Fjob, mIn1, lt4]; done)); rw [e1]; exact ⟨rfl, hM⟩) (Nat.le_of_ble_eq_true rfl) (Nat.le_of_ble_eq_true rfl) dX3_job_126
                  · skip
                    refine lv_iconst (v := 1) hx hb dX3_job_119 (by decide) ?_
                    refine lv_goto (tgt := 124) hx hb dX3_job_120 (by decide) ?_
                    refine m_zast 7 (j := ix (a)) hx hb hK hW hM (by decide) rfl ((nI_ix (isCb_nn c_399)).symm) (show ix (a) < 8 from by omega) rfl dX3_job_124 (fun H1 locs1 g1 hW hM => ?_)
                    refine lv_iconst (v := 1) hx hb dX3_job_125 (by decide) ?_
                    exact r_int hx hb hr hlk hW (by have e1 : Fjob r a b d f q = (1, s2 (s2 (s2 (s2 r 12 (ix (a)) (b)) 13 (ix (a)) (d)) 14 (ix (a)) (f)) 7 (ix (a)) (1)) := (by simp only [Fjob, ← hca]; first | (simp [Fjob, mIn1, lt4, c_399, c_401, c_402, c_411, c_413, c_414, c_416, c_417, c_418]; done) | (simp_all [Fjob, mIn1, lt4]; done)); rw [e1]; exact ⟨rfl, hM⟩) (Nat.le_of_ble_eq_true rfl) (Nat.le_of_ble_eq_true rfl) dX3_job_126
                · skip
                  have c_417 := Int32.not_le.mp c_417
                  refine lv_aload_n hx hb dX3_job_73 rfl (lv_at hl 0 rfl) ?_
                  refine m_get hx hb hts hown hK hW hM 12 (by decide) fl_RX3_44 (v := .ref (ad 11)) rfl dX3_job_74 ?_
                  refine lv_iload_n hx hb dX3_job_77 rfl (lv_at hl 1 rfl) ?_
                  refine m_iald 11 (j := ix (a)) (v := r 11 (ix (a))) hx hb hK hW hM (by decide) rfl ((nI_ix (isCb_nn c_399)).symm) (show ix (a) < 8 from by omega) rfl dX3_job_78 ?_
                  refine lv_iconst (v := 1) hx hb dX3_job_79 (by decide) ?_
                  refine lv_icmp_ne (tgt := 86) hx hb dX3_job_80 (by decide) (fun c_419 => ?_) (fun c_419 => ?_)
                  · skip
                    refine lv_aload_n hx hb dX3_job_86 rfl (lv_at hl 0 rfl) ?_
                    refine m_get hx hb hts hown hK hW hM 13 (by decide) fl_RX3_47 (v := .ref (ad 12)) rfl dX3_job_87 ?_
                    refine lv_iload_n hx hb dX3_job_90 rfl (lv_at hl 1 rfl) ?_
                    refine lv_iload_n hx hb dX3_job_91 rfl (lv_at hl 2 rfl) ?_
                    refine m_iast 12 (j := ix (a)) hx hb hK hW hM (by decide) rfl ((nI_ix (isCb_nn c_399)).symm) (show ix (a) < 8 from by omega) dX3_job_92 (fun H1 locs1 g1 hW hM => ?_)
                    refine lv_aload_n hx hb dX3_job_93 rfl (lv_at hl 0 rfl) ?_
                    refine m_get hx hb hts hown hK hW hM 14 (by decide) fl_RX3_50 (v := .ref (ad 13)) rfl dX3_job_94 ?_
                    refine lv_iload_n hx hb dX3_job_97 rfl (lv_at hl 1 rfl) ?_
                    refine lv_iload_n hx hb dX3_job_98 rfl (lv_at hl 3 rfl) ?_
                    refine m_iast 13 (j := ix (a)) hx hb hK hW hM (by decide) rfl ((nI_ix (isCb_nn c_399)).symm) (show ix (a) < 8 from by omega) dX3_job_99 (fun H1 locs1 g1 hW hM => ?_)
                    refine lv_aload_n hx hb dX3_job_100 rfl (lv_at hl 0 rfl) ?_
                    refine m_get hx hb hts hown hK hW hM 15 (by decide) fl_RX3_53 (v := .ref (ad 14)) rfl dX3_job_101 ?_
                    refine lv_iload_n hx hb dX3_job_104 rfl (lv_at hl 1 rfl) ?_
                    refine lv_iload hx hb dX3_job_105 (lv_at hl 4 rfl) ?_
                    refine m_iast 14 (j := ix (a)) hx hb hK hW hM (by decide) rfl ((nI_ix (isCb_nn c_399)).symm) (show ix (a) < 8 from by omega) dX3_job_107 (fun H1 locs1 g1 hW hM => ?_)
                    refine lv_aload_n hx hb dX3_job_108 rfl (lv_at hl 0 rfl) ?_
                    refine m_get hx hb hts hown hK hW hM 8 (by decide) fl_RX3_32 (v := .ref (ad 7)) rfl dX3_job_109 ?_
                    refine lv_iload_n hx hb dX3_job_112 rfl (lv_at hl 1 rfl) ?_
                    refine lv_iload hx hb dX3_job_113 (lv_at hl 5 rfl) ?_
                    refine lv_iconst (v := 1) hx hb dX3_job_115 (by decide) ?_
                    refine lv_icmp_ne (tgt := 123) hx hb dX3_job_116 (by decide) (fun c_420 => ?_) (fun c_420 => ?_)
                    · skip
                      refine lv_iconst (v := 0) hx hb dX3_job_123 (by decide) ?_
                      refine m_zast 7 (j := ix (a)) hx hb hK hW hM (by decide) rfl ((nI_ix (isCb_nn c_399)).symm) (show ix (a) < 8 from by omega) rfl dX3_job_124 (fun H1 locs1 g1 hW hM => ?_)
                      refine lv_iconst (v := 1) hx hb dX3_job_125 (by decide) ?_
                      exact r_int hx hb hr hlk hW (by have e1 : Fjob r a b d f q = (1, s2 (s2 (s2 (s2 r 12 (ix (a)) (b)) 13 (ix (a)) (d)) 14 (ix (a)) (f)) 7 (ix (a)) (0)) := (by simp only [Fjob, ← hca]; first | (simp [Fjob, mIn1, lt4, c_399, c_401, c_402, c_411, c_413, c_414, c_416, c_417, c_419, c_420]; done) | (simp_all [Fjob, mIn1, lt4]; done)); rw [e1]; exact ⟨rfl, hM⟩) (Nat.le_of_ble_eq_true rfl) (Nat.le_of_ble_eq_true rfl) dX3_job_126
                    · skip
                      refine lv_iconst (v := 1) hx hb dX3_job_119 (by decide) ?_
                      refine lv_goto (tgt := 124) hx hb dX3_job_120 (by decide) ?_
                      refine m_zast 7 (j := ix (a)) hx hb hK hW hM (by decide) rfl ((nI_ix (isCb_nn c_399)).symm) (show ix (a) < 8 from by omega) rfl dX3_job_124 (fun H1 locs1 g1 hW hM => ?_)
                      refine lv_iconst (v := 1) hx hb dX3_job_125 (by decide) ?_
                      exact r_int hx hb hr hlk hW (by have e1 : Fjob r a b d f q = (1, s2 (s2 (s2 (s2 r 12 (ix (a)) (b)) 13 (ix (a)) (d)) 14 (ix (a)) (f)) 7 (ix (a)) (1)) := (by simp only [Fjob, ← hca]; first | (simp [Fjob, mIn1, lt4, c_399, c_401, c_402, c_411, c_413, c_414, c_416, c_417, c_419, c_420]; done) | (simp_all [Fjob, mIn1, lt4]; done)); rw [e1]; exact ⟨rfl, hM⟩) (Nat.le_of_ble_eq_true rfl) (Nat.le_of_ble_eq_true rfl) dX3_job_126
                  · skip
                    refine lv_bipush (v := -2) hx hb dX3_job_83 (by decide) ?_
                    exact r_int hx hb hr hlk hW (by have e1 : Fjob r a b d f q = (-2, r) := (by simp only [Fjob, ← hca]; first | (simp [Fjob, mIn1, lt4, c_399, c_401, c_402, c_411, c_413, c_414, c_416, c_417, c_419]; done) | (simp_all [Fjob, mIn1, lt4]; done)); rw [e1]; exact ⟨rfl, hM⟩) (Nat.le_of_ble_eq_true rfl) (Nat.le_of_ble_eq_true rfl) dX3_job_85
          · skip
            have c_413 := (bI_eq0 _).mp c_413
            refine lv_bipush (v := -2) hx hb dX3_job_42 (by decide) ?_
            exact r_int hx hb hr hlk hW (by have e1 : Fjob r a b d f q = (-2, r) := (by simp only [Fjob, ← hca]; first | (simp [Fjob, mIn1, lt4, c_399, c_401, c_402, c_411, c_413]; done) | (simp_all [Fjob, mIn1, lt4]; done)); rw [e1]; exact ⟨rfl, hM⟩) (Nat.le_of_ble_eq_true rfl) (Nat.le_of_ble_eq_true rfl) dX3_job_44

set_option maxHeartbeats 4000000 in
set_option maxRecDepth 100000 in
theorem k_X3_counter (l : Launch) {E : gE} {y : Nat} {ad : Nat → Nat} {r t : sg} {g : gm} (hM : MR E y ad r t g) (hIV : IV r) (a b d f q : Int32) : CM l yX3_counter cX3_counter 6 (some .int) ({ frames := 2, cells := 0, slots := 0, locals := 43 }) E [.ref (y), .int (a), .int (b), .int (d), .int (f), .int (q)] g (fun vv g' => vv = some (.int (Fcounter r a b d f q).1) ∧ MR E y ad (Fcounter r a b d f q).2 t g') := by
  refine CM.of (by decide) (Nat.le_of_ble_eq_true rfl) ?_
  intro p e s m below meth c ls hM hK hW hl
  obtain ⟨hx, hb, hr, hml, hown, hts, hlk, hnm⟩ := hM
  have hown : s.vm.findClass RX3 = some m.cls := hown
  have hl : lv_has ls 6 [(0, .ref (y)), (1, .int (a)), (2, .int (b)), (3, .int (d)), (4, .int (f)), (5, .int (q))] := hl
  refine lv_iload_n hx hb dX3_counter_0 rfl (lv_at hl 1 rfl) ?_
  refine lv_iconst (v := 0) hx hb dX3_counter_1 (by decide) ?_
  refine lv_bipush (v := 7) hx hb dX3_counter_2 (by decide) ?_
  refine c_stat (own := RX3) (As := [.int (a), .int (0), .int (7)]) (rest := []) hx hb hml hown hts hK hW (k_X3_in l _ _ _) ml_RX3_78 st_yX3_in in_RX3 cd_yX3_in 3 (by decide +kernel) ⟨Nat.le_of_ble_eq_true rfl, Nat.le_of_ble_eq_true rfl⟩ rfl hl.1 rfl (Nat.le_of_ble_eq_true rfl) dX3_counter_4 ⟨Nat.le_of_ble_eq_true rfl, Nat.le_of_ble_eq_true rfl⟩ (fun v g2 H1 locs1 hp hW hKT => ?_)
  obtain ⟨rfl, hg⟩ := hp
  rw [hg] at hW
  refine W.eq (g2 := F0 m 7 ls [.int (bI (mIn (a) (0) (7)))]) rfl ?_
  refine lv_if_eq (tgt := 28) hx hb dX3_counter_7 (by decide) (fun c_421 => ?_) (fun c_421 => ?_)
  · skip
    have c_421 := (bI_eq0 _).mp c_421
    refine lv_bipush (v := -2) hx hb dX3_counter_28 (by decide) ?_
    exact r_int hx hb hr hlk hW (by have e1 : Fcounter r a b d f q = (-2, r) := (by simp only [Fcounter, ← Bool.and_assoc]; rw [← in7b]; simp [c_421]); rw [e1]; exact ⟨rfl, hM⟩) (Nat.le_of_ble_eq_true rfl) (Nat.le_of_ble_eq_true rfl) dX3_counter_30
  · skip
    have c_421 := bI_ne0 c_421
    have hb_422 := in7 (n := 7) (by decide) c_421
    have nhb_422 := hb_422.2
    refine lv_iload_n hx hb dX3_counter_10 rfl (lv_at hl 2 rfl) ?_
    refine lv_iload_n hx hb dX3_counter_11 rfl (lv_at hl 3 rfl) ?_
    refine c_stat (own := RX3) (As := [.int (b), .int (d)]) (rest := []) hx hb hml hown hts hK hW (k_X3_isView l _ _) ml_RX3_111 st_yX3_isView in_RX3 cd_yX3_isView 2 (by decide +kernel) ⟨Nat.le_of_ble_eq_true rfl, Nat.le_of_ble_eq_true rfl⟩ rfl hl.1 rfl (Nat.le_of_ble_eq_true rfl) dX3_counter_12 ⟨Nat.le_of_ble_eq_true rfl, Nat.le_of_ble_eq_true rfl⟩ (fun v g2 H1 locs1 hp hW hKT => ?_)
    obtain ⟨rfl, hg⟩ := hp
    rw [hg] at hW
    refine W.eq (g2 := F0 m 15 ls [.int (bI (kindB (b) (d)))]) rfl ?_
    refine lv_if_eq (tgt := 28) hx hb dX3_counter_15 (by decide) (fun c_423 => ?_) (fun c_423 => ?_)
    · skip
      have c_423 := (bI_eq0 _).mp c_423
      refine lv_bipush (v := -2) hx hb dX3_counter_28 (by decide) ?_
      exact r_int hx hb hr hlk hW (by have e1 : Fcounter r a b d f q = (-2, r) := (by simp only [Fcounter, ← Bool.and_assoc]; rw [← in7b]; simp [c_421, c_423]); rw [e1]; exact ⟨rfl, hM⟩) (Nat.le_of_ble_eq_true rfl) (Nat.le_of_ble_eq_true rfl) dX3_counter_30
    · skip
      have c_423 := bI_ne0 c_423
      refine lv_iload hx hb dX3_counter_18 (lv_at hl 4 rfl) ?_
      refine lv_iload hx hb dX3_counter_20 (lv_at hl 5 rfl) ?_
      refine c_stat (own := RX3) (As := [.int (f), .int (q)]) (rest := []) hx hb hml hown hts hK hW (k_X3_isView l _ _) ml_RX3_111 st_yX3_isView in_RX3 cd_yX3_isView 2 (by decide +kernel) ⟨Nat.le_of_ble_eq_true rfl, Nat.le_of_ble_eq_true rfl⟩ rfl hl.1 rfl (Nat.le_of_ble_eq_true rfl) dX3_counter_22 ⟨Nat.le_of_ble_eq_true rfl, Nat.le_of_ble_eq_true rfl⟩ (fun v g2 H1 locs1 hp hW hKT => ?_)
      obtain ⟨rfl, hg⟩ := hp
      rw [hg] at hW
      refine W.eq (g2 := F0 m 25 ls [.int (bI (kindB (f) (q)))]) rfl ?_
      refine lv_if_ne (tgt := 31) hx hb dX3_counter_25 (by decide) (fun c_424 => ?_) (fun c_424 => ?_)
      · skip
        have c_424 := bI_ne0 c_424
        refine lv_aload_n hx hb dX3_counter_31 rfl (lv_at hl 0 rfl) ?_
        refine m_get hx hb hts hown hK hW hM 6 (by decide) fl_RX3_25 (v := .ref (ad 5)) rfl dX3_counter_32 ?_
        refine lv_iload_n hx hb dX3_counter_35 rfl (lv_at hl 1 rfl) ?_
        refine lv_iconst (v := 1) hx hb dX3_counter_36 (by decide) ?_
        refine m_zast 5 (j := ix a) hx hb hK hW hM (by decide) rfl ((nI_ix hb_422.1).symm) (show ix a < 8 from by omega) rfl dX3_counter_37 (fun H1 locs1 g1 hW hM => ?_)
        refine lv_aload_n hx hb dX3_counter_38 rfl (lv_at hl 0 rfl) ?_
        refine m_get hx hb hts hown hK hW hM 7 (by decide) fl_RX3_29 (v := .ref (ad 6)) rfl dX3_counter_39 ?_
        refine lv_iload_n hx hb dX3_counter_42 rfl (lv_at hl 1 rfl) ?_
        refine lv_iconst (v := 0) hx hb dX3_counter_43 (by decide) ?_
        refine m_zast 6 (j := ix a) hx hb hK hW hM (by decide) rfl ((nI_ix hb_422.1).symm) (show ix a < 8 from by omega) rfl dX3_counter_44 (fun H1 locs1 g1 hW hM => ?_)
        refine lv_aload_n hx hb dX3_counter_45 rfl (lv_at hl 0 rfl) ?_
        refine m_get hx hb hts hown hK hW hM 8 (by decide) fl_RX3_32 (v := .ref (ad 7)) rfl dX3_counter_46 ?_
        refine lv_iload_n hx hb dX3_counter_49 rfl (lv_at hl 1 rfl) ?_
        refine lv_iconst (v := 0) hx hb dX3_counter_50 (by decide) ?_
        refine m_zast 7 (j := ix a) hx hb hK hW hM (by decide) rfl ((nI_ix hb_422.1).symm) (show ix a < 8 from by omega) rfl dX3_counter_51 (fun H1 locs1 g1 hW hM => ?_)
        refine lv_aload_n hx hb dX3_counter_52 rfl (lv_at hl 0 rfl) ?_
        refine m_get hx hb hts hown hK hW hM 9 (by decide) fl_RX3_35 (v := .ref (ad 8)) rfl dX3_counter_53 ?_
        refine lv_iload_n hx hb dX3_counter_56 rfl (lv_at hl 1 rfl) ?_
        refine lv_iload_n hx hb dX3_counter_57 rfl (lv_at hl 2 rfl) ?_
        refine m_iast 8 (j := ix a) hx hb hK hW hM (by decide) rfl ((nI_ix hb_422.1).symm) (show ix a < 8 from by omega) dX3_counter_58 (fun H1 locs1 g1 hW hM => ?_)
        refine lv_aload_n hx hb dX3_counter_59 rfl (lv_at hl 0 rfl) ?_
        refine m_get hx hb hts hown hK hW hM 10 (by decide) fl_RX3_38 (v := .ref (ad 9)) rfl dX3_counter_60 ?_
        refine lv_iload_n hx hb dX3_counter_63 rfl (lv_at hl 1 rfl) ?_
        refine lv_iload_n hx hb dX3_counter_64 rfl (lv_at hl 3 rfl) ?_
        refine m_iast 9 (j := ix a) hx hb hK hW hM (by decide) rfl ((nI_ix hb_422.1).symm) (show ix a < 8 from by omega) dX3_counter_65 (fun H1 locs1 g1 hW hM => ?_)
        refine lv_aload_n hx hb dX3_counter_66 rfl (lv_at hl 0 rfl) ?_
        refine m_get hx hb hts hown hK hW hM 11 (by decide) fl_RX3_41 (v := .ref (ad 10)) rfl dX3_counter_67 ?_
        refine lv_iload_n hx hb dX3_counter_70 rfl (lv_at hl 1 rfl) ?_
        refine lv_iload hx hb dX3_counter_71 (lv_at hl 4 rfl) ?_
        refine m_iast 10 (j := ix a) hx hb hK hW hM (by decide) rfl ((nI_ix hb_422.1).symm) (show ix a < 8 from by omega) dX3_counter_73 (fun H1 locs1 g1 hW hM => ?_)
        refine lv_aload_n hx hb dX3_counter_74 rfl (lv_at hl 0 rfl) ?_
        refine m_get hx hb hts hown hK hW hM 12 (by decide) fl_RX3_44 (v := .ref (ad 11)) rfl dX3_counter_75 ?_
        refine lv_iload_n hx hb dX3_counter_78 rfl (lv_at hl 1 rfl) ?_
        refine lv_iload hx hb dX3_counter_79 (lv_at hl 5 rfl) ?_
        refine m_iast 11 (j := ix a) hx hb hK hW hM (by decide) rfl ((nI_ix hb_422.1).symm) (show ix a < 8 from by omega) dX3_counter_81 (fun H1 locs1 g1 hW hM => ?_)
        refine lv_aload_n hx hb dX3_counter_82 rfl (lv_at hl 0 rfl) ?_
        refine m_get hx hb hts hown hK hW hM 13 (by decide) fl_RX3_47 (v := .ref (ad 12)) rfl dX3_counter_83 ?_
        refine lv_iload_n hx hb dX3_counter_86 rfl (lv_at hl 1 rfl) ?_
        refine lv_iconst (v := 0) hx hb dX3_counter_87 (by decide) ?_
        refine m_iast 12 (j := ix a) hx hb hK hW hM (by decide) rfl ((nI_ix hb_422.1).symm) (show ix a < 8 from by omega) dX3_counter_88 (fun H1 locs1 g1 hW hM => ?_)
        refine lv_aload_n hx hb dX3_counter_89 rfl (lv_at hl 0 rfl) ?_
        refine m_get hx hb hts hown hK hW hM 14 (by decide) fl_RX3_50 (v := .ref (ad 13)) rfl dX3_counter_90 ?_
        refine lv_iload_n hx hb dX3_counter_93 rfl (lv_at hl 1 rfl) ?_
        refine lv_iconst (v := 0) hx hb dX3_counter_94 (by decide) ?_
        refine m_iast 13 (j := ix a) hx hb hK hW hM (by decide) rfl ((nI_ix hb_422.1).symm) (show ix a < 8 from by omega) dX3_counter_95 (fun H1 locs1 g1 hW hM => ?_)
        refine lv_aload_n hx hb dX3_counter_96 rfl (lv_at hl 0 rfl) ?_
        refine m_get hx hb hts hown hK hW hM 15 (by decide) fl_RX3_53 (v := .ref (ad 14)) rfl dX3_counter_97 ?_
        refine lv_iload_n hx hb dX3_counter_100 rfl (lv_at hl 1 rfl) ?_
        refine lv_iconst (v := -1) hx hb dX3_counter_101 (by decide) ?_
        refine m_iast 14 (j := ix a) hx hb hK hW hM (by decide) rfl ((nI_ix hb_422.1).symm) (show ix a < 8 from by omega) dX3_counter_102 (fun H1 locs1 g1 hW hM => ?_)
        refine lv_aload_n hx hb dX3_counter_103 rfl (lv_at hl 0 rfl) ?_
        refine m_get hx hb hts hown hK hW hM 16 (by decide) fl_RX3_56 (v := .ref (ad 15)) rfl dX3_counter_104 ?_
        refine lv_iload_n hx hb dX3_counter_107 rfl (lv_at hl 1 rfl) ?_
        refine lv_iconst (v := 0) hx hb dX3_counter_108 (by decide) ?_
        refine m_iast 15 (j := ix a) hx hb hK hW hM (by decide) rfl ((nI_ix hb_422.1).symm) (show ix a < 8 from by omega) dX3_counter_109 (fun H1 locs1 g1 hW hM => ?_)
        refine lv_aload_n hx hb dX3_counter_110 rfl (lv_at hl 0 rfl) ?_
        refine m_get hx hb hts hown hK hW hM 17 (by decide) fl_RX3_59 (v := .ref (ad 16)) rfl dX3_counter_111 ?_
        refine lv_iload_n hx hb dX3_counter_114 rfl (lv_at hl 1 rfl) ?_
        refine lv_iconst (v := 0) hx hb dX3_counter_115 (by decide) ?_
        refine m_iast 16 (j := ix a) hx hb hK hW hM (by decide) rfl ((nI_ix hb_422.1).symm) (show ix a < 8 from by omega) dX3_counter_116 (fun H1 locs1 g1 hW hM => ?_)
        refine lv_iconst (v := 1) hx hb dX3_counter_117 (by decide) ?_
        exact r_int hx hb hr hlk hW (by have e1 : Fcounter r a b d f q = (1, s2 (s2 (s2 (s2 (s2 (s2 (s2 (s2 (s2 (s2 (s2 (s2 r 5 (ix a) (1)) 6 (ix a) (0)) 7 (ix a) (0)) 8 (ix a) (b)) 9 (ix a) (d)) 10 (ix a) (f)) 11 (ix a) (q)) 12 (ix a) (0)) 13 (ix a) (0)) 14 (ix a) (-1)) 15 (ix a) (0)) 16 (ix a) (0)) := (by simp only [Fcounter, ← Bool.and_assoc]; rw [← in7b]; simp [c_421, c_423, c_424, ctrF]); rw [e1]; exact ⟨rfl, hM⟩) (Nat.le_of_ble_eq_true rfl) (Nat.le_of_ble_eq_true rfl) dX3_counter_118
      · skip
        have c_424 := (bI_eq0 _).mp c_424
        refine lv_bipush (v := -2) hx hb dX3_counter_28 (by decide) ?_
        exact r_int hx hb hr hlk hW (by have e1 : Fcounter r a b d f q = (-2, r) := (by simp only [Fcounter, ← Bool.and_assoc]; rw [← in7b]; simp [c_421, c_423, c_424]); rw [e1]; exact ⟨rfl, hM⟩) (Nat.le_of_ble_eq_true rfl) (Nat.le_of_ble_eq_true rfl) dX3_counter_30
end
section
theorem s2_id {r : sg} {f i : Nat} {v : Int32} (h : r f i = v) : s2 r f i v = r := by
  funext q j
  rw [s2_a]
  by_cases hq : q = f ∧ j = i
  · rw [if_pos hq, hq.1, hq.2, h]
  · rw [if_neg hq]
theorem m60 {r : sg} (h0 : ¬ r 17 0 < 0) (h60 : nm r ≤ 60) : r 17 0 = 60 ↔ ¬ r 17 0 < 60 := by
  have e := ix_i h0
  have h60' : ix (r 17 0) ≤ 60 := h60
  rw [Int32.lt_iff_toInt_lt, ← Int32.toInt_inj]
  simp only [show (60 : Int32).toInt = 60 from rfl]
  omega
theorem m60n {r : sg} (h0 : ¬ r 17 0 < 0) (h60 : nm r ≤ 60) (h : ¬ r 17 0 = 60) : nm r < 60 := by
  have e := ix_i h0
  have h60' : ix (r 17 0) ≤ 60 := h60
  rw [← Int32.toInt_inj] at h
  simp only [show (60 : Int32).toInt = 60 from rfl] at h
  show ix (r 17 0) < 60
  omega
theorem ent_kept {r : sg} {b d n : Int32} : entF r b d n 0 = keptF r b d n (if figB b d then 0 else -1) := s2_id (by simp [keptF, s2_a, fillN_a])
theorem fig_0 (b : Int32) : figB b 0 = false := by simp [figB]
theorem bun_c (b d n : Int32) : (d < 1 ∨ kindB b d = false ∨ 8 < n) ↔ (mIn b 0 5 = false ∨ mIn d 1 3 = false ∨ 8 < n) := by
  rw [← view_kind]
  have h4 : ∀ a c : Int32, a < c ↔ a.toInt < c.toInt := fun _ _ => Int32.lt_iff_toInt_lt
  simp only [mIn, Bool.or_eq_false_iff, Bool.and_eq_false_iff, Bool.not_eq_false', decide_eq_true_eq, h4, show (0 : Int32).toInt = 0 from rfl, show (1 : Int32).toInt = 1 from rfl, show (3 : Int32).toInt = 3 from rfl, show (4 : Int32).toInt = 4 from rfl, show (5 : Int32).toInt = 5 from rfl, show (8 : Int32).toInt = 8 from rfl]
  omega
theorem add1 (x : Int32) : x + 1 - 1 = x := by rw [Int32.sub_eq_add_neg, Int32.add_assoc]; simp

set_option maxHeartbeats 4000000 in
set_option maxRecDepth 100000 in
theorem k_X3_kept (l : Launch) {E : gE} {y : Nat} {ad : Nat → Nat} {r t : sg} {g : gm} (hM : MR E y ad r t g) (hn0 : ¬ r 17 0 < 0) (h60 : nm r < 60) (b d n fl : Int32) : CM l yX3_kept cX3_kept 6 (some .int) ({ frames := 0, cells := 0, slots := 0, locals := 0 }) E [.ref (y), .int (b), .int (d), .int (n), .int (fl)] g (fun vv g' => vv = some (.int (r 17 0)) ∧ MR E y ad (keptF r b d n fl) t g') := by
  refine CM.of (by decide) (Nat.le_of_ble_eq_true rfl) ?_
  intro p e s m below meth c ls hMX hK hW hl
  obtain ⟨hx, hb, hr, hml, hown, hts, hlk, hnm⟩ := hMX
  have hown : s.vm.findClass RX3 = some m.cls := hown
  have hl : lv_has ls 6 [(0, .ref (y)), (1, .int (b)), (2, .int (d)), (3, .int (n)), (4, .int (fl))] := hl
  have eN : r 17 0 = nI (nm r) := (nI_ix hn0).symm
  have loop : ∀ (k j : Nat), 8 < j + k → j ≤ 8 → ∀ (g1 : gm) (H : Heap) (locs : List Loc) (ls : Array Slot), PW E (fr g s.heap.size) s.heap H locs g1 → MR E y ad (fillN (s2 (s2 (s2 (s2 r 0 (nm r) (b)) 1 (nm r) (d)) 2 (nm r) (0)) 3 (nm r) (n)) (nm r) fl j) t g1 → lv_has ls 6 [(5, .int (nI j)), (0, .ref (y)), (1, .int (b)), (2, .int (d)), (3, .int (n)), (4, .int (fl))] → W p l e ({ frames := 0, cells := 0, slots := 0, locals := 0 }) s m ([.ref (y), .int (b), .int (d), .int (n), .int (fl)] : List Value).toArray below meth c H locs 0 0 (MQ below (QC E g s.heap.size (fun vv g' => vv = some (.int (r 17 0)) ∧ MR E y ad (keptF r b d n fl) t g')) ([.ref (y), .int (b), .int (d), .int (n), .int (fl)] : List Value).toArray s (Room.cells ({ frames := 0, cells := 0, slots := 0, locals := 0 })) (Room.slots ({ frames := 0, cells := 0, slots := 0, locals := 0 })) (fr g s.heap.size)) (F0 m 43 ls []) := by
    intro k
    induction k with
    | zero =>
      intro j h1 h2
      exact absurd h1 (by omega)
    | succ k ih =>
      intro j h1 h2 g1 H locs ls hW hM hl
      obtain ⟨R, hR⟩ : ∃ zz, zz = fillN (s2 (s2 (s2 (s2 r 0 (nm r) (b)) 1 (nm r) (d)) 2 (nm r) (0)) 3 (nm r) (n)) (nm r) fl j := ⟨_, rfl⟩
      have e17 : fillN (s2 (s2 (s2 (s2 r 0 (nm r) (b)) 1 (nm r) (d)) 2 (nm r) (0)) 3 (nm r) (n)) (nm r) fl j 17 0 = r 17 0 := by rw [fillN_a, if_neg (by omega)]; rfl
      have hM : MR E y ad R t g1 := by rw [hR]; exact hM
      have eR : R 17 0 = nI (nm r) := by rw [hR, e17, eN]
      refine lv_iload hx hb dX3_kept_43 (lv_at hl 0 rfl) ?_
      refine lv_bipush (v := 8) hx hb dX3_kept_45 (by decide) ?_
      refine lv_icmp_ge (tgt := 73) hx hb dX3_kept_47 (by decide) (fun c_425 => ?_) (fun c_425 => ?_)
      · skip
        have c_425 := Int32.not_lt.mpr c_425
        have hj8 : j = 8 := by
          rcases Nat.lt_or_ge j 8 with q1 | q1
          · exact absurd ((nI_ltI (b := 8) (by omega) (by decide)).mpr q1) c_425
          · omega
        refine lv_aload_n hx hb dX3_kept_73 rfl (lv_at hl 1 rfl) ?_
        refine lv_dup hx hb dX3_kept_74 rfl ?_
        refine m_get hx hb hts hown hK hW hM 0 (by decide) fl_RX3_74 (v := .int (R 17 0)) rfl dX3_kept_75 ?_
        refine lv_iconst (v := 1) hx hb dX3_kept_78 (by decide) ?_
        refine lv_iadd hx hb dX3_kept_79 ?_
        refine m_put (r' := s2 R 17 0 ((R 17 0) + (1))) (t' := t) hx hb hts hown hK hW hM 0 (by decide) fl_RX3_74 rfl rfl (fun f hf => s2_f _ _ _ (by omega)) (fun _ _ => rfl) rfl dX3_kept_80 (fun H1 locs1 g1 hW hM => ?_)
        refine lv_aload_n hx hb dX3_kept_83 rfl (lv_at hl 1 rfl) ?_
        refine m_get hx hb hts hown hK hW hM 0 (by decide) fl_RX3_74 (v := .int ((s2 R 17 0 ((R 17 0) + (1))) 17 0)) rfl dX3_kept_84 ?_
        refine lv_iconst (v := 1) hx hb dX3_kept_87 (by decide) ?_
        refine lv_isub hx hb dX3_kept_88 ?_
        exact r_int hx hb hr hlk hW (by have e1 : keptF r b d n fl = s2 R 17 0 ((R 17 0) + (1)) := (by subst hj8; rw [hR, e17]; rfl); rw [e1]; exact ⟨by rw [show (((s2 R 17 0 ((R 17 0) + (1))) 17 0) - (1) : Int32) = r 17 0 from by show (R 17 0 + 1) - 1 = _; rw [add1, hR, e17]], hM⟩) (Nat.le_of_ble_eq_true rfl) (Nat.le_of_ble_eq_true rfl) dX3_kept_89
      · skip
        have c_425 := Int32.not_le.mp c_425
        have hj8 : j < 8 := (nI_ltI (b := 8) (by omega) (by decide)).mp c_425
        refine lv_aload_n hx hb dX3_kept_50 rfl (lv_at hl 1 rfl) ?_
        refine m_get hx hb hts hown hK hW hM 5 (by decide) fl_RX3_22 (v := .ref (ad 4)) rfl dX3_kept_51 ?_
        refine lv_bipush (v := 8) hx hb dX3_kept_54 (by decide) ?_
        refine lv_aload_n hx hb dX3_kept_56 rfl (lv_at hl 1 rfl) ?_
        refine m_get hx hb hts hown hK hW hM 0 (by decide) fl_RX3_74 (v := .int (R 17 0)) rfl dX3_kept_57 ?_
        refine lv_imul hx hb dX3_kept_60 ?_
        refine lv_iload hx hb dX3_kept_61 (lv_at hl 0 rfl) ?_
        refine lv_iadd hx hb dX3_kept_63 ?_
        refine lv_iload hx hb dX3_kept_64 (lv_at hl 5 rfl) ?_
        refine m_iast 4 (j := 8 * (nm r) + j) hx hb hK hW hM (by decide) rfl ((it_e eR rfl)) (show 8 * (nm r) + j < 480 from by omega) dX3_kept_66 (fun H1 locs1 g1 hW hM => ?_)
        refine lv_iinc (v := (nI j) + (1)) (lv' := [(5, .int ((nI j) + (1))), (0, .ref (y)), (1, .int (b)), (2, .int (d)), (3, .int (n)), (4, .int (fl))]) hx hb dX3_kept_67 hl (k := 0) rfl rfl (by decide) rfl (fun ls hl => ?_)
        refine lv_goto (tgt := 43) hx hb dX3_kept_70 (by decide) ?_
        exact ih (j + 1) (by omega) (by omega) _ _ _ _ hW (by rw [hR] at hM; exact hM) (by rw [← nI_1]; exact lv_sub hl [0, 1, 2, 3, 4, 5] rfl)
  refine lv_aload_n hx hb dX3_kept_0 rfl (lv_at hl 0 rfl) ?_
  refine m_get hx hb hts hown hK hW hM 1 (by decide) fl_RX3_7 (v := .ref (ad 0)) rfl dX3_kept_1 ?_
  refine lv_aload_n hx hb dX3_kept_4 rfl (lv_at hl 0 rfl) ?_
  refine m_get hx hb hts hown hK hW hM 0 (by decide) fl_RX3_74 (v := .int (r 17 0)) rfl dX3_kept_5 ?_
  refine lv_iload_n hx hb dX3_kept_8 rfl (lv_at hl 1 rfl) ?_
  refine m_iast 0 (j := nm r) hx hb hK hW hM (by decide) rfl eN (show nm r < 60 from by omega) dX3_kept_9 (fun H1 locs1 g1 hW hM => ?_)
  refine lv_aload_n hx hb dX3_kept_10 rfl (lv_at hl 0 rfl) ?_
  refine m_get hx hb hts hown hK hW hM 2 (by decide) fl_RX3_13 (v := .ref (ad 1)) rfl dX3_kept_11 ?_
  refine lv_aload_n hx hb dX3_kept_14 rfl (lv_at hl 0 rfl) ?_
  refine m_get hx hb hts hown hK hW hM 0 (by decide) fl_RX3_74 (v := .int (r 17 0)) rfl dX3_kept_15 ?_
  refine lv_iload_n hx hb dX3_kept_18 rfl (lv_at hl 2 rfl) ?_
  refine m_iast 1 (j := nm r) hx hb hK hW hM (by decide) rfl eN (show nm r < 60 from by omega) dX3_kept_19 (fun H1 locs1 g1 hW hM => ?_)
  refine lv_aload_n hx hb dX3_kept_20 rfl (lv_at hl 0 rfl) ?_
  refine m_get hx hb hts hown hK hW hM 3 (by decide) fl_RX3_16 (v := .ref (ad 2)) rfl dX3_kept_21 ?_
  refine lv_aload_n hx hb dX3_kept_24 rfl (lv_at hl 0 rfl) ?_
  refine m_get hx hb hts hown hK hW hM 0 (by decide) fl_RX3_74 (v := .int (r 17 0)) rfl dX3_kept_25 ?_
  refine lv_iconst (v := 0) hx hb dX3_kept_28 (by decide) ?_
  refine m_iast 2 (j := nm r) hx hb hK hW hM (by decide) rfl eN (show nm r < 60 from by omega) dX3_kept_29 (fun H1 locs1 g1 hW hM => ?_)
  refine lv_aload_n hx hb dX3_kept_30 rfl (lv_at hl 0 rfl) ?_
  refine m_get hx hb hts hown hK hW hM 4 (by decide) fl_RX3_19 (v := .ref (ad 3)) rfl dX3_kept_31 ?_
  refine lv_aload_n hx hb dX3_kept_34 rfl (lv_at hl 0 rfl) ?_
  refine m_get hx hb hts hown hK hW hM 0 (by decide) fl_RX3_74 (v := .int (r 17 0)) rfl dX3_kept_35 ?_
  refine lv_iload_n hx hb dX3_kept_38 rfl (lv_at hl 3 rfl) ?_
  refine m_iast 3 (j := nm r) hx hb hK hW hM (by decide) rfl eN (show nm r < 60 from by omega) dX3_kept_39 (fun H1 locs1 g1 hW hM => ?_)
  refine lv_iconst (v := 0) hx hb dX3_kept_40 (by decide) ?_
  refine lv_istore (lv' := [(5, .int (0)), (0, .ref (y)), (1, .int (b)), (2, .int (d)), (3, .int (n)), (4, .int (fl))]) hx hb dX3_kept_41 hl (by decide) rfl (fun ls hl => ?_)
  exact loop 9 0 (by omega) (by omega) _ _ _ _ hW hM (lv_sub hl [0, 1, 2, 3, 4, 5] rfl)

theorem sl_c (b : Int32) : (b < 0 ∨ 2 < b) ↔ mIn b 0 2 = false := by
  simp only [mIn, Bool.and_eq_false_iff, Bool.not_eq_false', decide_eq_true_eq]

set_option maxHeartbeats 4000000 in
set_option maxRecDepth 100000 in
theorem k_X3_slip (l : Launch) {E : gE} {y : Nat} {ad : Nat → Nat} {r t : sg} {g : gm} (hM : MR E y ad r t g) (hIV : IV r) (b st : Int32) : CM l yX3_slip cX3_slip 4 (some .int) ({ frames := 1, cells := 0, slots := 0, locals := 25 }) E [.ref (y), .int (b), .int (st)] g (fun vv g' => vv = some (.int (Fslip r b st).1) ∧ MR E y ad (Fslip r b st).2 t g') := by
  refine CM.of (by decide) (Nat.le_of_ble_eq_true rfl) ?_
  intro p e s m below meth c ls hM hK hW hl
  obtain ⟨hx, hb, hr, hml, hown, hts, hlk, hnm⟩ := hM
  have hown : s.vm.findClass RX3 = some m.cls := hown
  have hl : lv_has ls 4 [(0, .ref (y)), (1, .int (b)), (2, .int (st))] := hl
  refine lv_iload_n hx hb dX3_slip_0 rfl (lv_at hl 1 rfl) ?_
  refine lv_iconst (v := 0) hx hb dX3_slip_1 (by decide) ?_
  refine lv_iconst (v := 2) hx hb dX3_slip_2 (by decide) ?_
  refine c_stat (own := RX3) (As := [.int (b), .int (0), .int (2)]) (rest := []) hx hb hml hown hts hK hW (k_X3_in l _ _ _) ml_RX3_78 st_yX3_in in_RX3 cd_yX3_in 3 (by decide +kernel) ⟨Nat.le_of_ble_eq_true rfl, Nat.le_of_ble_eq_true rfl⟩ rfl hl.1 rfl (Nat.le_of_ble_eq_true rfl) dX3_slip_3 ⟨Nat.le_of_ble_eq_true rfl, Nat.le_of_ble_eq_true rfl⟩ (fun v g2 H1 locs1 hp hW hKT => ?_)
  obtain ⟨rfl, hg⟩ := hp
  rw [hg] at hW
  refine W.eq (g2 := F0 m 6 ls [.int (bI (mIn (b) (0) (2)))]) rfl ?_
  refine lv_if_ne (tgt := 12) hx hb dX3_slip_6 (by decide) (fun c_426 => ?_) (fun c_426 => ?_)
  · skip
    have c_426 := bI_ne0 c_426
    refine lv_aload_n hx hb dX3_slip_12 rfl (lv_at hl 0 rfl) ?_
    refine m_get hx hb hts hown hK hW hM 0 (by decide) fl_RX3_74 (v := .int (r 17 0)) rfl dX3_slip_13 ?_
    refine lv_bipush (v := 60) hx hb dX3_slip_16 (by decide) ?_
    refine lv_icmp_ne (tgt := 24) hx hb dX3_slip_18 (by decide) (fun c_427 => ?_) (fun c_427 => ?_)
    · skip
      have hn60 := m60n hIV.1 hIV.2.1 c_427
      have hz_428 : r 17 0 < 60 := Decidable.not_not.mp (fun q => c_427 ((m60 hIV.1 hIV.2.1).mpr q))
      refine lv_aload_n hx hb dX3_slip_24 rfl (lv_at hl 0 rfl) ?_
      refine lv_iload_n hx hb dX3_slip_25 rfl (lv_at hl 1 rfl) ?_
      refine lv_iconst (v := 0) hx hb dX3_slip_26 (by decide) ?_
      refine lv_iconst (v := 0) hx hb dX3_slip_27 (by decide) ?_
      refine lv_iconst (v := -1) hx hb dX3_slip_28 (by decide) ?_
      refine c_virt (own := RX3) (As := [.int (b), .int (0), .int (0), .int (-1)]) (rest := []) hx hb hml hown hts hK hW (k_X3_kept l hM hIV.1 hn60 _ _ _ _) ml_RX3_93 im_yX3_kept se_yX3_kept in_RX3 cd_yX3_kept 4 (by decide +kernel) ⟨Nat.le_of_ble_eq_true rfl, Nat.le_of_ble_eq_true rfl⟩ hM.1 rfl rfl rfl hl.1 rfl (Nat.le_of_ble_eq_true rfl) dX3_slip_29 ⟨Nat.le_of_ble_eq_true rfl, Nat.le_of_ble_eq_true rfl⟩ (fun v g2 H1 locs1 hp hW hKT => ?_)
      obtain ⟨rfl, hM⟩ := hp
      refine W.eq (g2 := F0 m 32 ls [.int (r 17 0)]) rfl ?_
      refine lv_istore_n (lv' := [(3, .int (r 17 0)), (0, .ref (y)), (1, .int (b)), (2, .int (st))]) hx hb dX3_slip_32 rfl hl (by decide) rfl (fun ls hl => ?_)
      refine lv_aload_n hx hb dX3_slip_33 rfl (lv_at hl 1 rfl) ?_
      refine m_get hx hb hts hown hK hW hM 3 (by decide) fl_RX3_16 (v := .ref (ad 2)) rfl dX3_slip_34 ?_
      refine lv_iload_n hx hb dX3_slip_37 rfl (lv_at hl 0 rfl) ?_
      refine lv_iload_n hx hb dX3_slip_38 rfl (lv_at hl 3 rfl) ?_
      refine m_iast 2 (j := nm r) hx hb hK hW hM (by decide) rfl ((nI_ix hIV.1).symm) (show nm r < 60 from by omega) dX3_slip_39 (fun H1 locs1 g1 hW hM => ?_)
      refine lv_iload_n hx hb dX3_slip_40 rfl (lv_at hl 0 rfl) ?_
      exact r_int hx hb hr hlk hW (by have e1 : Fslip r b st = (r 17 0, s2 (keptF r (b) (0) (0) (-1)) 2 (nm r) (st)) := (by simp [Fslip, sl_c, entF, fig_0, c_426, c_427, hz_428]); rw [e1]; exact ⟨rfl, hM⟩) (Nat.le_of_ble_eq_true rfl) (Nat.le_of_ble_eq_true rfl) dX3_slip_41
    · skip
      have hz_429 : ¬ r 17 0 < 60 := (m60 hIV.1 hIV.2.1).mp c_427
      refine lv_bipush (v := -3) hx hb dX3_slip_21 (by decide) ?_
      exact r_int hx hb hr hlk hW (by have e1 : Fslip r b st = (-3, r) := (by simp [Fslip, sl_c, entF, fig_0, c_426, c_427, hz_429]); rw [e1]; exact ⟨rfl, hM⟩) (Nat.le_of_ble_eq_true rfl) (Nat.le_of_ble_eq_true rfl) dX3_slip_23
  · skip
    have c_426 := (bI_eq0 _).mp c_426
    refine lv_bipush (v := -2) hx hb dX3_slip_9 (by decide) ?_
    exact r_int hx hb hr hlk hW (by have e1 : Fslip r b st = (-2, r) := (by simp [Fslip, sl_c, entF, fig_0, c_426]); rw [e1]; exact ⟨rfl, hM⟩) (Nat.le_of_ble_eq_true rfl) (Nat.le_of_ble_eq_true rfl) dX3_slip_11

set_option maxHeartbeats 4000000 in
set_option maxRecDepth 100000 in
theorem k_X3_bundle (l : Launch) {E : gE} {y : Nat} {ad : Nat → Nat} {r t : sg} {g : gm} (hM : MR E y ad r t g) (hIV : IV r) (b d n : Int32) : CM l yX3_bundle cX3_bundle 4 (some .int) ({ frames := 1, cells := 0, slots := 0, locals := 25 }) E [.ref (y), .int (b), .int (d), .int (n)] g (fun vv g' => vv = some (.int (Fbundle r b d n).1) ∧ MR E y ad (Fbundle r b d n).2 t g') := by
  refine CM.of (by decide) (Nat.le_of_ble_eq_true rfl) ?_
  intro p e s m below meth c ls hM hK hW hl
  obtain ⟨hx, hb, hr, hml, hown, hts, hlk, hnm⟩ := hM
  have hown : s.vm.findClass RX3 = some m.cls := hown
  have hl : lv_has ls 4 [(0, .ref (y)), (1, .int (b)), (2, .int (d)), (3, .int (n))] := hl
  refine lv_iload_n hx hb dX3_bundle_0 rfl (lv_at hl 1 rfl) ?_
  refine lv_iconst (v := 0) hx hb dX3_bundle_1 (by decide) ?_
  refine lv_iconst (v := 5) hx hb dX3_bundle_2 (by decide) ?_
  refine c_stat (own := RX3) (As := [.int (b), .int (0), .int (5)]) (rest := []) hx hb hml hown hts hK hW (k_X3_in l _ _ _) ml_RX3_78 st_yX3_in in_RX3 cd_yX3_in 3 (by decide +kernel) ⟨Nat.le_of_ble_eq_true rfl, Nat.le_of_ble_eq_true rfl⟩ rfl hl.1 rfl (Nat.le_of_ble_eq_true rfl) dX3_bundle_3 ⟨Nat.le_of_ble_eq_true rfl, Nat.le_of_ble_eq_true rfl⟩ (fun v g2 H1 locs1 hp hW hKT => ?_)
  obtain ⟨rfl, hg⟩ := hp
  rw [hg] at hW
  refine W.eq (g2 := F0 m 6 ls [.int (bI (mIn (b) (0) (5)))]) rfl ?_
  refine lv_if_eq (tgt := 24) hx hb dX3_bundle_6 (by decide) (fun c_430 => ?_) (fun c_430 => ?_)
  · skip
    have c_430 := (bI_eq0 _).mp c_430
    refine lv_bipush (v := -2) hx hb dX3_bundle_24 (by decide) ?_
    exact r_int hx hb hr hlk hW (by have e1 : Fbundle r b d n = (-2, r) := (by simp only [Fbundle, bun_c]; simp [ent_kept, figB, lt4, show mIn 1 1 3 = true from rfl, c_430]); rw [e1]; exact ⟨rfl, hM⟩) (Nat.le_of_ble_eq_true rfl) (Nat.le_of_ble_eq_true rfl) dX3_bundle_26
  · skip
    have c_430 := bI_ne0 c_430
    refine lv_iload_n hx hb dX3_bundle_9 rfl (lv_at hl 2 rfl) ?_
    refine lv_iconst (v := 1) hx hb dX3_bundle_10 (by decide) ?_
    refine lv_iconst (v := 3) hx hb dX3_bundle_11 (by decide) ?_
    refine c_stat (own := RX3) (As := [.int (d), .int (1), .int (3)]) (rest := []) hx hb hml hown hts hK hW (k_X3_in l _ _ _) ml_RX3_78 st_yX3_in in_RX3 cd_yX3_in 3 (by decide +kernel) ⟨Nat.le_of_ble_eq_true rfl, Nat.le_of_ble_eq_true rfl⟩ rfl hl.1 rfl (Nat.le_of_ble_eq_true rfl) dX3_bundle_12 ⟨Nat.le_of_ble_eq_true rfl, Nat.le_of_ble_eq_true rfl⟩ (fun v g2 H1 locs1 hp hW hKT => ?_)
    obtain ⟨rfl, hg⟩ := hp
    rw [hg] at hW
    refine W.eq (g2 := F0 m 15 ls [.int (bI (mIn (d) (1) (3)))]) rfl ?_
    refine lv_if_eq (tgt := 24) hx hb dX3_bundle_15 (by decide) (fun c_431 => ?_) (fun c_431 => ?_)
    · skip
      have c_431 := (bI_eq0 _).mp c_431
      refine lv_bipush (v := -2) hx hb dX3_bundle_24 (by decide) ?_
      exact r_int hx hb hr hlk hW (by have e1 : Fbundle r b d n = (-2, r) := (by simp only [Fbundle, bun_c]; simp [ent_kept, figB, lt4, show mIn 1 1 3 = true from rfl, c_430, c_431]); rw [e1]; exact ⟨rfl, hM⟩) (Nat.le_of_ble_eq_true rfl) (Nat.le_of_ble_eq_true rfl) dX3_bundle_26
    · skip
      have c_431 := bI_ne0 c_431
      refine lv_iload_n hx hb dX3_bundle_18 rfl (lv_at hl 3 rfl) ?_
      refine lv_bipush (v := 8) hx hb dX3_bundle_19 (by decide) ?_
      refine lv_icmp_le (tgt := 27) hx hb dX3_bundle_21 (by decide) (fun c_432 => ?_) (fun c_432 => ?_)
      · skip
        have c_432 := Int32.not_lt.mpr c_432
        refine lv_aload_n hx hb dX3_bundle_27 rfl (lv_at hl 0 rfl) ?_
        refine m_get hx hb hts hown hK hW hM 0 (by decide) fl_RX3_74 (v := .int (r 17 0)) rfl dX3_bundle_28 ?_
        refine lv_bipush (v := 60) hx hb dX3_bundle_31 (by decide) ?_
        refine lv_icmp_ne (tgt := 39) hx hb dX3_bundle_33 (by decide) (fun c_433 => ?_) (fun c_433 => ?_)
        · skip
          have hn60 := m60n hIV.1 hIV.2.1 c_433
          have hz_434 : r 17 0 < 60 := Decidable.not_not.mp (fun q => c_433 ((m60 hIV.1 hIV.2.1).mpr q))
          refine lv_iload_n hx hb dX3_bundle_39 rfl (lv_at hl 3 rfl) ?_
          refine lv_if_ge (tgt := 48) hx hb dX3_bundle_40 (by decide) (fun c_435 => ?_) (fun c_435 => ?_)
          · skip
            have c_435 := Int32.not_lt.mpr c_435
            refine lv_aload_n hx hb dX3_bundle_48 rfl (lv_at hl 0 rfl) ?_
            refine lv_iload_n hx hb dX3_bundle_49 rfl (lv_at hl 1 rfl) ?_
            refine lv_iload_n hx hb dX3_bundle_50 rfl (lv_at hl 2 rfl) ?_
            refine lv_iload_n hx hb dX3_bundle_51 rfl (lv_at hl 3 rfl) ?_
            refine lv_iload_n hx hb dX3_bundle_52 rfl (lv_at hl 1 rfl) ?_
            refine lv_iconst (v := 3) hx hb dX3_bundle_53 (by decide) ?_
            refine lv_icmp_le (tgt := 66) hx hb dX3_bundle_54 (by decide) (fun c_436 => ?_) (fun c_436 => ?_)
            · skip
              have c_436 := Int32.not_lt.mpr c_436
              refine lv_iconst (v := -1) hx hb dX3_bundle_66 (by decide) ?_
              refine c_virt (own := RX3) (As := [.int (b), .int (d), .int (n), .int (-1)]) (rest := []) hx hb hml hown hts hK hW (k_X3_kept l hM hIV.1 hn60 _ _ _ _) ml_RX3_93 im_yX3_kept se_yX3_kept in_RX3 cd_yX3_kept 4 (by decide +kernel) ⟨Nat.le_of_ble_eq_true rfl, Nat.le_of_ble_eq_true rfl⟩ hM.1 rfl rfl rfl hl.1 rfl (Nat.le_of_ble_eq_true rfl) dX3_bundle_67 ⟨Nat.le_of_ble_eq_true rfl, Nat.le_of_ble_eq_true rfl⟩ (fun v g2 H1 locs1 hp hW hKT => ?_)
              obtain ⟨rfl, hM⟩ := hp
              refine W.eq (g2 := F0 m 70 ls [.int (r 17 0)]) rfl ?_
              exact r_int hx hb hr hlk hW (by have e1 : Fbundle r b d n = (r 17 0, keptF r (b) (d) (n) (-1)) := (by simp only [Fbundle, bun_c]; simp [ent_kept, figB, lt4, show mIn 1 1 3 = true from rfl, c_430, c_431, c_432, c_433, hz_434, c_435, c_436]); rw [e1]; exact ⟨rfl, hM⟩) (Nat.le_of_ble_eq_true rfl) (Nat.le_of_ble_eq_true rfl) dX3_bundle_70
            · skip
              have c_436 := Int32.not_le.mp c_436
              refine lv_iload_n hx hb dX3_bundle_57 rfl (lv_at hl 2 rfl) ?_
              refine lv_iconst (v := 1) hx hb dX3_bundle_58 (by decide) ?_
              refine lv_icmp_ne (tgt := 66) hx hb dX3_bundle_59 (by decide) (fun c_437 => ?_) (fun c_437 => ?_)
              · skip
                refine lv_iconst (v := -1) hx hb dX3_bundle_66 (by decide) ?_
                refine c_virt (own := RX3) (As := [.int (b), .int (d), .int (n), .int (-1)]) (rest := []) hx hb hml hown hts hK hW (k_X3_kept l hM hIV.1 hn60 _ _ _ _) ml_RX3_93 im_yX3_kept se_yX3_kept in_RX3 cd_yX3_kept 4 (by decide +kernel) ⟨Nat.le_of_ble_eq_true rfl, Nat.le_of_ble_eq_true rfl⟩ hM.1 rfl rfl rfl hl.1 rfl (Nat.le_of_ble_eq_true rfl) dX3_bundle_67 ⟨Nat.le_of_ble_eq_true rfl, Nat.le_of_ble_eq_true rfl⟩ (fun v g2 H1 locs1 hp hW hKT => ?_)
                obtain ⟨rfl, hM⟩ := hp
                refine W.eq (g2 := F0 m 70 ls [.int (r 17 0)]) rfl ?_
                exact r_int hx hb hr hlk hW (by have e1 : Fbundle r b d n = (r 17 0, keptF r (b) (d) (n) (-1)) := (by simp only [Fbundle, bun_c]; simp [ent_kept, figB, lt4, show mIn 1 1 3 = true from rfl, c_430, c_431, c_432, c_433, hz_434, c_435, c_436, c_437]); rw [e1]; exact ⟨rfl, hM⟩) (Nat.le_of_ble_eq_true rfl) (Nat.le_of_ble_eq_true rfl) dX3_bundle_70
              · skip
                refine lv_iconst (v := 0) hx hb dX3_bundle_62 (by decide) ?_
                refine lv_goto (tgt := 67) hx hb dX3_bundle_63 (by decide) ?_
                refine c_virt (own := RX3) (As := [.int (b), .int (d), .int (n), .int (0)]) (rest := []) hx hb hml hown hts hK hW (k_X3_kept l hM hIV.1 hn60 _ _ _ _) ml_RX3_93 im_yX3_kept se_yX3_kept in_RX3 cd_yX3_kept 4 (by decide +kernel) ⟨Nat.le_of_ble_eq_true rfl, Nat.le_of_ble_eq_true rfl⟩ hM.1 rfl rfl rfl hl.1 rfl (Nat.le_of_ble_eq_true rfl) dX3_bundle_67 ⟨Nat.le_of_ble_eq_true rfl, Nat.le_of_ble_eq_true rfl⟩ (fun v g2 H1 locs1 hp hW hKT => ?_)
                obtain ⟨rfl, hM⟩ := hp
                refine W.eq (g2 := F0 m 70 ls [.int (r 17 0)]) rfl ?_
                exact r_int hx hb hr hlk hW (by have e1 : Fbundle r b d n = (r 17 0, keptF r (b) (d) (n) (0)) := (by simp only [Fbundle, bun_c]; simp [ent_kept, figB, lt4, show mIn 1 1 3 = true from rfl, c_430, c_431, c_432, c_433, hz_434, c_435, c_436, c_437]); rw [e1]; exact ⟨rfl, hM⟩) (Nat.le_of_ble_eq_true rfl) (Nat.le_of_ble_eq_true rfl) dX3_bundle_70
          · skip
            have c_435 := Int32.not_le.mp c_435
            refine lv_bipush (v := -6) hx hb dX3_bundle_43 (by decide) ?_
            refine lv_goto (tgt := 70) hx hb dX3_bundle_45 (by decide) ?_
            exact r_int hx hb hr hlk hW (by have e1 : Fbundle r b d n = (-6, r) := (by simp only [Fbundle, bun_c]; simp [ent_kept, figB, lt4, show mIn 1 1 3 = true from rfl, c_430, c_431, c_432, c_433, hz_434, c_435]); rw [e1]; exact ⟨rfl, hM⟩) (Nat.le_of_ble_eq_true rfl) (Nat.le_of_ble_eq_true rfl) dX3_bundle_70
        · skip
          have hz_438 : ¬ r 17 0 < 60 := (m60 hIV.1 hIV.2.1).mp c_433
          refine lv_bipush (v := -3) hx hb dX3_bundle_36 (by decide) ?_
          exact r_int hx hb hr hlk hW (by have e1 : Fbundle r b d n = (-3, r) := (by simp only [Fbundle, bun_c]; simp [ent_kept, figB, lt4, show mIn 1 1 3 = true from rfl, c_430, c_431, c_432, c_433, hz_438]); rw [e1]; exact ⟨rfl, hM⟩) (Nat.le_of_ble_eq_true rfl) (Nat.le_of_ble_eq_true rfl) dX3_bundle_38
      · skip
        have c_432 := Int32.not_le.mp c_432
        refine lv_bipush (v := -2) hx hb dX3_bundle_24 (by decide) ?_
        exact r_int hx hb hr hlk hW (by have e1 : Fbundle r b d n = (-2, r) := (by simp only [Fbundle, bun_c]; simp [ent_kept, figB, lt4, show mIn 1 1 3 = true from rfl, c_430, c_431, c_432]); rw [e1]; exact ⟨rfl, hM⟩) (Nat.le_of_ble_eq_true rfl) (Nat.le_of_ble_eq_true rfl) dX3_bundle_26

def begT (t : sg) (tp : Nat) (m k : Int32) : sg := s2 (s2 (s2 (s2 t 0 tp m) 1 tp k) 2 tp (-1)) 4 0 (t 4 0 + 1)

set_option maxHeartbeats 4000000 in
set_option maxRecDepth 100000 in
theorem k_X3_begin (l : Launch) {E : gE} {y : Nat} {ad : Nat → Nat} {r t : sg} {g : gm} (hM : MR E y ad r t g) {tp : Nat} (htp : t 4 0 = nI tp) (ht40 : tp < 40) (a b : Int32) : CM l yX3_begin cX3_begin 3 none ({ frames := 0, cells := 0, slots := 0, locals := 0 }) E [.ref (y), .int (a), .int (b)] g (fun vv g' => vv = none ∧ MR E y ad r (begT t tp a b) g') := by
  refine CM.of (by decide) (Nat.le_of_ble_eq_true rfl) ?_
  intro p e s m below meth c ls hM hK hW hl
  obtain ⟨hx, hb, hr, hml, hown, hts, hlk, hnm⟩ := hM
  have hown : s.vm.findClass RX3 = some m.cls := hown
  have hl : lv_has ls 3 [(0, .ref (y)), (1, .int (a)), (2, .int (b))] := hl
  refine lv_aload_n hx hb dX3_begin_0 rfl (lv_at hl 0 rfl) ?_
  refine m_get hx hb hts hown hK hW hM 25 (by decide) fl_RX3_62 (v := .ref (ad 17)) rfl dX3_begin_1 ?_
  refine lv_aload_n hx hb dX3_begin_4 rfl (lv_at hl 0 rfl) ?_
  refine m_get hx hb hts hown hK hW hM 24 (by decide) fl_RX3_117 (v := .int (t 4 0)) rfl dX3_begin_5 ?_
  refine lv_iload_n hx hb dX3_begin_8 rfl (lv_at hl 1 rfl) ?_
  refine m_sast 0 (j := tp) hx hb hK hW hM (by decide) htp (show tp < 40 from by omega) dX3_begin_9 (fun H1 locs1 g1 hW hM => ?_)
  refine lv_aload_n hx hb dX3_begin_10 rfl (lv_at hl 0 rfl) ?_
  refine m_get hx hb hts hown hK hW hM 26 (by decide) fl_RX3_65 (v := .ref (ad 18)) rfl dX3_begin_11 ?_
  refine lv_aload_n hx hb dX3_begin_14 rfl (lv_at hl 0 rfl) ?_
  refine m_get hx hb hts hown hK hW hM 24 (by decide) fl_RX3_117 (v := .int (t 4 0)) rfl dX3_begin_15 ?_
  refine lv_iload_n hx hb dX3_begin_18 rfl (lv_at hl 2 rfl) ?_
  refine m_sast 1 (j := tp) hx hb hK hW hM (by decide) htp (show tp < 40 from by omega) dX3_begin_19 (fun H1 locs1 g1 hW hM => ?_)
  refine lv_aload_n hx hb dX3_begin_20 rfl (lv_at hl 0 rfl) ?_
  refine m_get hx hb hts hown hK hW hM 27 (by decide) fl_RX3_68 (v := .ref (ad 19)) rfl dX3_begin_21 ?_
  refine lv_aload_n hx hb dX3_begin_24 rfl (lv_at hl 0 rfl) ?_
  refine m_get hx hb hts hown hK hW hM 24 (by decide) fl_RX3_117 (v := .int (t 4 0)) rfl dX3_begin_25 ?_
  refine lv_iconst (v := -1) hx hb dX3_begin_28 (by decide) ?_
  refine m_sast 2 (j := tp) hx hb hK hW hM (by decide) htp (show tp < 40 from by omega) dX3_begin_29 (fun H1 locs1 g1 hW hM => ?_)
  refine lv_aload_n hx hb dX3_begin_30 rfl (lv_at hl 0 rfl) ?_
  refine lv_dup hx hb dX3_begin_31 rfl ?_
  refine m_get hx hb hts hown hK hW hM 24 (by decide) fl_RX3_117 (v := .int (t 4 0)) rfl dX3_begin_32 ?_
  refine lv_iconst (v := 1) hx hb dX3_begin_35 (by decide) ?_
  refine lv_iadd hx hb dX3_begin_36 ?_
  refine m_put (r' := r) (t' := s2 (s2 (s2 (s2 t 0 tp (a)) 1 tp (b)) 2 tp (-1)) 4 0 ((t 4 0) + (1))) hx hb hts hown hK hW hM 24 (by decide) fl_RX3_117 rfl rfl (fun _ _ => rfl) (fun f hf => s2_f _ _ _ (by omega)) rfl dX3_begin_37 (fun H1 locs1 g1 hW hM => ?_)
  exact r_void hx hb hr hlk hW (by exact ⟨rfl, hM⟩) (Nat.le_of_ble_eq_true rfl) (Nat.le_of_ble_eq_true rfl) dX3_begin_40

set_option maxHeartbeats 4000000 in
set_option maxRecDepth 100000 in
theorem k_X3_count (l : Launch) {E : gE} {y : Nat} {ad : Nat → Nat} {r t : sg} {g : gm} (hM : MR E y ad r t g) (a : Int32) : CM l yX3_count cX3_count 4 (some .int) ({ frames := 0, cells := 0, slots := 0, locals := 0 }) E [.ref (y), .int (a)] g (fun vv g' => vv = some (.int (Fcount r a)) ∧ g' = g) := by
  refine CM.of (by decide) (Nat.le_of_ble_eq_true rfl) ?_
  intro p e s m below meth c ls hMX hK hW hl
  obtain ⟨hx, hb, hr, hml, hown, hts, hlk, hnm⟩ := hMX
  have hown : s.vm.findClass RX3 = some m.cls := hown
  have hl : lv_has ls 4 [(0, .ref (y)), (1, .int (a))] := hl
  have loop : a = 1 → ∀ (k j : Nat), 8 < j + k → j ≤ 8 → ∀ (H : Heap) (locs : List Loc) (ls : Array Slot), PW E (fr g s.heap.size) s.heap H locs g → lv_has ls 4 [(3, .int (nI j)), (2, .int (nsetN r j)), (0, .ref (y)), (1, .int (a))] → W p l e ({ frames := 0, cells := 0, slots := 0, locals := 0 }) s m ([.ref (y), .int (a)] : List Value).toArray below meth c H locs 0 0 (MQ below (QC E g s.heap.size (fun vv g' => vv = some (.int (Fcount r a)) ∧ g' = g)) ([.ref (y), .int (a)] : List Value).toArray s (Room.cells ({ frames := 0, cells := 0, slots := 0, locals := 0 })) (Room.slots ({ frames := 0, cells := 0, slots := 0, locals := 0 })) (fr g s.heap.size)) (F0 m 9 ls []) := by
    intro ha1 k
    induction k with
    | zero =>
      intro j h1 h2
      exact absurd h1 (by omega)
    | succ k ih =>
      intro j h1 h2 H locs ls hW hl
      refine lv_iload_n hx hb dX3_count_9 rfl (lv_at hl 0 rfl) ?_
      refine lv_bipush (v := 8) hx hb dX3_count_10 (by decide) ?_
      refine lv_icmp_ge (tgt := 38) hx hb dX3_count_12 (by decide) (fun c_439 => ?_) (fun c_439 => ?_)
      · skip
        have c_439 := Int32.not_lt.mpr c_439
        have hj8 : j = 8 := by
          rcases Nat.lt_or_ge j 8 with q1 | q1
          · exact absurd ((nI_ltI (b := 8) (by omega) (by decide)).mpr q1) c_439
          · omega
        refine lv_iload_n hx hb dX3_count_38 rfl (lv_at hl 1 rfl) ?_
        exact r_int hx hb hr hlk hW (by exact ⟨by rw [hj8, ha1]; rfl, rfl⟩) (Nat.le_of_ble_eq_true rfl) (Nat.le_of_ble_eq_true rfl) dX3_count_39
      · skip
        have c_439 := Int32.not_le.mp c_439
        have hj8 : j < 8 := (nI_ltI (b := 8) (by omega) (by decide)).mp c_439
        refine lv_iload_n hx hb dX3_count_15 rfl (lv_at hl 1 rfl) ?_
        refine lv_aload_n hx hb dX3_count_16 rfl (lv_at hl 2 rfl) ?_
        refine m_get hx hb hts hown hK hW hM 6 (by decide) fl_RX3_25 (v := .ref (ad 5)) rfl dX3_count_17 ?_
        refine lv_iload_n hx hb dX3_count_20 rfl (lv_at hl 0 rfl) ?_
        refine m_zald 5 (j := j) (v := r 5 j) hx hb hK hW hM (by decide) rfl rfl (show j < 8 from by omega) rfl dX3_count_21 ?_
        refine lv_if_eq (tgt := 29) hx hb dX3_count_22 (by decide) (fun c_440 => ?_) (fun c_440 => ?_)
        · skip
          refine lv_iconst (v := 0) hx hb dX3_count_29 (by decide) ?_
          refine lv_iadd hx hb dX3_count_30 ?_
          refine lv_istore_n (lv' := [(2, .int ((nsetN r j) + (0))), (3, .int (nI j)), (0, .ref (y)), (1, .int (a))]) hx hb dX3_count_31 rfl hl (by decide) rfl (fun ls hl => ?_)
          refine lv_iinc (v := (nI j) + (1)) (lv' := [(3, .int ((nI j) + (1))), (2, .int ((nsetN r j) + (0))), (0, .ref (y)), (1, .int (a))]) hx hb dX3_count_32 hl (k := 1) rfl rfl (by decide) rfl (fun ls hl => ?_)
          refine lv_goto (tgt := 9) hx hb dX3_count_35 (by decide) ?_
          have e5 : nsetN r (j + 1) = (nsetN r j) + (0) := by simp [nsetN, bI, c_440]
          exact ih (j + 1) (by omega) (by omega) _ _ _ hW (by rw [← nI_1, e5]; exact lv_sub hl [0, 1, 2, 3] rfl)
        · skip
          refine lv_iconst (v := 1) hx hb dX3_count_25 (by decide) ?_
          refine lv_goto (tgt := 30) hx hb dX3_count_26 (by decide) ?_
          refine lv_iadd hx hb dX3_count_30 ?_
          refine lv_istore_n (lv' := [(2, .int ((nsetN r j) + (1))), (3, .int (nI j)), (0, .ref (y)), (1, .int (a))]) hx hb dX3_count_31 rfl hl (by decide) rfl (fun ls hl => ?_)
          refine lv_iinc (v := (nI j) + (1)) (lv' := [(3, .int ((nI j) + (1))), (2, .int ((nsetN r j) + (1))), (0, .ref (y)), (1, .int (a))]) hx hb dX3_count_32 hl (k := 1) rfl rfl (by decide) rfl (fun ls hl => ?_)
          refine lv_goto (tgt := 9) hx hb dX3_count_35 (by decide) ?_
          have e5 : nsetN r (j + 1) = (nsetN r j) + (1) := by simp [nsetN, bI, c_440]
          exact ih (j + 1) (by omega) (by omega) _ _ _ hW (by rw [← nI_1, e5]; exact lv_sub hl [0, 1, 2, 3] rfl)
  refine lv_iload_n hx hb dX3_count_0 rfl (lv_at hl 1 rfl) ?_
  refine lv_iconst (v := 1) hx hb dX3_count_1 (by decide) ?_
  refine lv_icmp_ne (tgt := 40) hx hb dX3_count_2 (by decide) (fun c_441 => ?_) (fun c_441 => ?_)
  · skip
    refine lv_iload_n hx hb dX3_count_40 rfl (lv_at hl 1 rfl) ?_
    refine lv_if_ne (tgt := 51) hx hb dX3_count_41 (by decide) (fun c_442 => ?_) (fun c_442 => ?_)
    · skip
      refine lv_iload_n hx hb dX3_count_51 rfl (lv_at hl 1 rfl) ?_
      refine lv_iconst (v := 2) hx hb dX3_count_52 (by decide) ?_
      refine lv_icmp_ne (tgt := 63) hx hb dX3_count_53 (by decide) (fun c_443 => ?_) (fun c_443 => ?_)
      · skip
        refine lv_bipush (v := -2) hx hb dX3_count_63 (by decide) ?_
        exact r_int hx hb hr hlk hW (by refine ⟨?_, rfl⟩; simp [Fcount, c_441, c_442, c_443]) (Nat.le_of_ble_eq_true rfl) (Nat.le_of_ble_eq_true rfl) dX3_count_65
      · skip
        refine lv_aload_n hx hb dX3_count_56 rfl (lv_at hl 0 rfl) ?_
        refine m_get hx hb hts hown hK hW hM 18 (by decide) fl_RX3_158 (v := .int (r 17 1)) rfl dX3_count_57 ?_
        refine lv_goto (tgt := 65) hx hb dX3_count_60 (by decide) ?_
        exact r_int hx hb hr hlk hW (by refine ⟨?_, rfl⟩; simp [Fcount, c_441, c_442, c_443]) (Nat.le_of_ble_eq_true rfl) (Nat.le_of_ble_eq_true rfl) dX3_count_65
    · skip
      refine lv_aload_n hx hb dX3_count_44 rfl (lv_at hl 0 rfl) ?_
      refine m_get hx hb hts hown hK hW hM 0 (by decide) fl_RX3_74 (v := .int (r 17 0)) rfl dX3_count_45 ?_
      refine lv_goto (tgt := 65) hx hb dX3_count_48 (by decide) ?_
      exact r_int hx hb hr hlk hW (by refine ⟨?_, rfl⟩; simp [Fcount, c_441, c_442]) (Nat.le_of_ble_eq_true rfl) (Nat.le_of_ble_eq_true rfl) dX3_count_65
  · skip
    refine lv_iconst (v := 0) hx hb dX3_count_5 (by decide) ?_
    refine lv_istore_n (lv' := [(2, .int (0)), (0, .ref (y)), (1, .int (a))]) hx hb dX3_count_6 rfl hl (by decide) rfl (fun ls hl => ?_)
    refine lv_iconst (v := 0) hx hb dX3_count_7 (by decide) ?_
    refine lv_istore_n (lv' := [(3, .int (0)), (2, .int (0)), (0, .ref (y)), (1, .int (a))]) hx hb dX3_count_8 rfl hl (by decide) rfl (fun ls hl => ?_)
    exact loop c_441 9 0 (by omega) (by omega) _ _ _ hW (lv_sub hl [0, 1, 2, 3] rfl)
end
section
def meetN (r : sg) (i : Nat) : Nat → Int32
  | 0 => -1
  | n + 1 => if asksB r (7 - n) i then nI (7 - n) else meetN r i n
def overV (r : sg) (c : Nat) (b : Int32) : Int32 := if b = 0 then nI c else if fallF (metF r c) c 7 c = 0 ∨ b = 5 then -10 - b else -100
def overR (r : sg) (c : Nat) (b : Int32) : sg := if b = 0 then tinc (metF r c) 3 else fallF (metF r c) c
def spF (r t : sg) (lv i : Nat) : Nat → Nat → Int32 × sg
  | 0, _ => (0, t)
  | n + 1, j => if r 4 (8 * i + j) = -1 then spF r t lv i n (j + 1) else (1, begT (s2 t 3 lv (nI j + 1)) (ix (t 4 0)) (r 4 (8 * i + j)) (t 2 lv + 1))
theorem fall2_A {B : sg} {c : Nat} (h : B 6 c = 1) : s2 B 6 c 1 = fall2 B c := by
  unfold fall2
  split
  · rfl
  · exact s2_id h
theorem fall2_C {B : sg} {c : Nat} (h : B 6 c = 0) (h2 : ¬ rem3 (B 16 c) = 0) : s2 B 6 c 0 = fall2 B c := by
  unfold fall2
  rw [if_neg h2]
  exact s2_id h
theorem own_v {r : sg} (h60 : nm r ≤ 60) {x : Int32} (h : x = -1 ∨ isMb r x = true) : x = -1 ∨ (¬ x < 0 ∧ ix x < 60) := h.imp id (fun q => ⟨isMb_nn q, Nat.lt_of_lt_of_le (isMb_lt q) h60⟩)

set_option maxHeartbeats 4000000 in
set_option maxRecDepth 100000 in
theorem k_X3_meeting (l : Launch) {E : gE} {y : Nat} {ad : Nat → Nat} {r t : sg} {g : gm} (hM : MR E y ad r t g) {i k : Nat} {a b : Int32} (ha : a = nI i) (hi : i < 60) (hbk : b = nI k) (hk : k ≤ 8) : CM l yX3_meeting cX3_meeting 4 (some .int) ({ frames := 2, cells := 0, slots := 0, locals := 44 }) E [.ref (y), .int (a), .int (b)] g (fun vv g' => vv = some (.int (meetN r i (8 - k))) ∧ g' = g) := by
  refine CM.of (by decide) (Nat.le_of_ble_eq_true rfl) ?_
  intro p e s m below meth c ls hMX hK hW hl
  obtain ⟨hx, hb, hr, hml, hown, hts, hlk, hnm⟩ := hMX
  have hown : s.vm.findClass RX3 = some m.cls := hown
  have hl : lv_has ls 4 [(0, .ref (y)), (1, .int (a)), (2, .int (b))] := hl
  have loop : ∀ (q : Nat), q ≤ 8 → meetN r i q = meetN r i (8 - k) → ∀ (H : Heap) (locs : List Loc) (ls : Array Slot), PW E (fr g s.heap.size) s.heap H locs g → lv_has ls 4 [(3, .int (nI (8 - q))), (0, .ref (y)), (1, .int (a)), (2, .int (b))] → W p l e ({ frames := 2, cells := 0, slots := 0, locals := 44 }) s m ([.ref (y), .int (a), .int (b)] : List Value).toArray below meth c H locs 0 0 (MQ below (QC E g s.heap.size (fun vv g' => vv = some (.int (meetN r i (8 - k))) ∧ g' = g)) ([.ref (y), .int (a), .int (b)] : List Value).toArray s (Room.cells ({ frames := 2, cells := 0, slots := 0, locals := 44 })) (Room.slots ({ frames := 2, cells := 0, slots := 0, locals := 44 })) (fr g s.heap.size)) (F0 m 2 ls []) := by
    intro q
    induction q with
    | zero =>
      intro hq hF H locs ls hW hl
      refine lv_iload_n hx hb dX3_meeting_2 rfl (lv_at hl 0 rfl) ?_
      refine lv_bipush (v := 8) hx hb dX3_meeting_3 (by decide) ?_
      refine lv_icmp_ge (tgt := 54) hx hb dX3_meeting_5 (by decide) (fun c_444 => ?_) (fun c_444 => ?_)
      · skip
        have c_444 := Int32.not_lt.mpr c_444
        refine lv_iconst (v := -1) hx hb dX3_meeting_54 (by decide) ?_
        exact r_int hx hb hr hlk hW (by exact ⟨by rw [← hF]; rfl, rfl⟩) (Nat.le_of_ble_eq_true rfl) (Nat.le_of_ble_eq_true rfl) dX3_meeting_55
      · skip
        have c_444 := Int32.not_le.mp c_444
        exact absurd c_444 (by rw [show nI (8 - 0) = (8 : Int32) from rfl]; decide)
    | succ q ih =>
      intro hq hF H locs ls hW hl
      obtain ⟨c0, hcq⟩ : ∃ c0, c0 = 7 - q := ⟨_, rfl⟩
      rw [show 8 - (q + 1) = c0 from by omega] at hl
      have eC : meetN r i (q + 1) = if asksB r c0 i then nI c0 else meetN r i q := by rw [hcq]; rfl
      refine lv_iload_n hx hb dX3_meeting_2 rfl (lv_at hl 0 rfl) ?_
      refine lv_bipush (v := 8) hx hb dX3_meeting_3 (by decide) ?_
      refine lv_icmp_ge (tgt := 54) hx hb dX3_meeting_5 (by decide) (fun c_445 => ?_) (fun c_445 => ?_)
      · skip
        have c_445 := Int32.not_lt.mpr c_445
        exact absurd ((nI_ltI (a := c0) (b := 8) (by omega) (by decide)).mpr (by omega)) c_445
      · skip
        have c_445 := Int32.not_le.mp c_445
        refine lv_aload_n hx hb dX3_meeting_8 rfl (lv_at hl 1 rfl) ?_
        refine m_get hx hb hts hown hK hW hM 6 (by decide) fl_RX3_25 (v := .ref (ad 5)) rfl dX3_meeting_9 ?_
        refine lv_iload_n hx hb dX3_meeting_12 rfl (lv_at hl 0 rfl) ?_
        refine m_zald 5 (j := c0) (v := r 5 c0) hx hb hK hW hM (by decide) rfl rfl (show c0 < 8 from by omega) rfl dX3_meeting_13 ?_
        refine lv_if_eq (tgt := 48) hx hb dX3_meeting_14 (by decide) (fun c_446 => ?_) (fun c_446 => ?_)
        · skip
          refine lv_iinc (v := (nI c0) + (1)) (lv' := [(3, .int ((nI c0) + (1))), (0, .ref (y)), (1, .int (a)), (2, .int (b))]) hx hb dX3_meeting_48 hl (k := 0) rfl rfl (by decide) rfl (fun ls hl => ?_)
          refine lv_goto (tgt := 2) hx hb dX3_meeting_51 (by decide) ?_
          exact ih (by omega) (by rw [← hF, eC]; simp [asksB, c_445, c_446]) _ _ _ hW (by rw [show nI (8 - q) = nI c0 + 1 from by rw [nI_1]; congr 1; omega]; exact lv_sub hl [0, 1, 2, 3] rfl)
        · skip
          refine lv_aload_n hx hb dX3_meeting_17 rfl (lv_at hl 1 rfl) ?_
          refine m_get hx hb hts hown hK hW hM 7 (by decide) fl_RX3_29 (v := .ref (ad 6)) rfl dX3_meeting_18 ?_
          refine lv_iload_n hx hb dX3_meeting_21 rfl (lv_at hl 0 rfl) ?_
          refine m_zald 6 (j := c0) (v := r 6 c0) hx hb hK hW hM (by decide) rfl rfl (show c0 < 8 from by omega) rfl dX3_meeting_22 ?_
          refine lv_if_ne (tgt := 48) hx hb dX3_meeting_23 (by decide) (fun c_447 => ?_) (fun c_447 => ?_)
          · skip
            refine lv_iinc (v := (nI c0) + (1)) (lv' := [(3, .int ((nI c0) + (1))), (0, .ref (y)), (1, .int (a)), (2, .int (b))]) hx hb dX3_meeting_48 hl (k := 0) rfl rfl (by decide) rfl (fun ls hl => ?_)
            refine lv_goto (tgt := 2) hx hb dX3_meeting_51 (by decide) ?_
            exact ih (by omega) (by rw [← hF, eC]; simp [asksB, c_445, c_446, c_447]) _ _ _ hW (by rw [show nI (8 - q) = nI c0 + 1 from by rw [nI_1]; congr 1; omega]; exact lv_sub hl [0, 1, 2, 3] rfl)
          · skip
            refine lv_aload_n hx hb dX3_meeting_26 rfl (lv_at hl 1 rfl) ?_
            refine lv_iload_n hx hb dX3_meeting_27 rfl (lv_at hl 2 rfl) ?_
            refine lv_aload_n hx hb dX3_meeting_28 rfl (lv_at hl 1 rfl) ?_
            refine m_get hx hb hts hown hK hW hM 9 (by decide) fl_RX3_35 (v := .ref (ad 8)) rfl dX3_meeting_29 ?_
            refine lv_iload_n hx hb dX3_meeting_32 rfl (lv_at hl 0 rfl) ?_
            refine m_iald 8 (j := c0) (v := r 8 c0) hx hb hK hW hM (by decide) rfl rfl (show c0 < 8 from by omega) rfl dX3_meeting_33 ?_
            refine lv_aload_n hx hb dX3_meeting_34 rfl (lv_at hl 1 rfl) ?_
            refine m_get hx hb hts hown hK hW hM 10 (by decide) fl_RX3_38 (v := .ref (ad 9)) rfl dX3_meeting_35 ?_
            refine lv_iload_n hx hb dX3_meeting_38 rfl (lv_at hl 0 rfl) ?_
            refine m_iald 9 (j := c0) (v := r 9 c0) hx hb hK hW hM (by decide) rfl rfl (show c0 < 8 from by omega) rfl dX3_meeting_39 ?_
            refine c_virt (own := RX3) (As := [.int (a), .int (r 8 c0), .int (r 9 c0)]) (rest := []) hx hb hml hown hts hK hW (k_X3_isOf l hM (i := i) ha (by omega) _ _) ml_RX3_90 im_yX3_isOf se_yX3_isOf in_RX3 cd_yX3_isOf 3 (by decide +kernel) ⟨Nat.le_of_ble_eq_true rfl, Nat.le_of_ble_eq_true rfl⟩ hM.1 rfl rfl rfl hl.1 rfl (Nat.le_of_ble_eq_true rfl) dX3_meeting_40 ⟨Nat.le_of_ble_eq_true rfl, Nat.le_of_ble_eq_true rfl⟩ (fun v g2 H1 locs1 hp hW hKT => ?_)
            obtain ⟨rfl, hg⟩ := hp
            rw [hg] at hW
            refine W.eq (g2 := F0 m 43 ls [.int (bI (fitB r i (r 8 c0) (r 9 c0)))]) rfl ?_
            refine lv_if_eq (tgt := 48) hx hb dX3_meeting_43 (by decide) (fun c_448 => ?_) (fun c_448 => ?_)
            · skip
              have c_448 := (bI_eq0 _).mp c_448
              refine lv_iinc (v := (nI c0) + (1)) (lv' := [(3, .int ((nI c0) + (1))), (0, .ref (y)), (1, .int (a)), (2, .int (b))]) hx hb dX3_meeting_48 hl (k := 0) rfl rfl (by decide) rfl (fun ls hl => ?_)
              refine lv_goto (tgt := 2) hx hb dX3_meeting_51 (by decide) ?_
              exact ih (by omega) (by rw [← hF, eC]; simp [asksB, c_445, c_446, c_447, c_448]) _ _ _ hW (by rw [show nI (8 - q) = nI c0 + 1 from by rw [nI_1]; congr 1; omega]; exact lv_sub hl [0, 1, 2, 3] rfl)
            · skip
              have c_448 := bI_ne0 c_448
              refine lv_iload_n hx hb dX3_meeting_46 rfl (lv_at hl 0 rfl) ?_
              exact r_int hx hb hr hlk hW (by refine ⟨?_, rfl⟩; rw [← hF, eC]; simp [asksB, c_445, c_446, c_447, c_448]) (Nat.le_of_ble_eq_true rfl) (Nat.le_of_ble_eq_true rfl) dX3_meeting_47
  refine lv_iload_n hx hb dX3_meeting_0 rfl (lv_at hl 2 rfl) ?_
  refine lv_istore_n (lv' := [(3, .int (b)), (0, .ref (y)), (1, .int (a)), (2, .int (b))]) hx hb dX3_meeting_1 rfl hl (by decide) rfl (fun ls hl => ?_)
  exact loop (8 - k) (by omega) rfl _ _ _ hW (by rw [show 8 - (8 - k) = k from by omega, ← hbk]; exact lv_sub hl [0, 1, 2, 3] rfl)

set_option maxHeartbeats 4000000 in
set_option maxRecDepth 100000 in
theorem k_X3_mark (l : Launch) {E : gE} {y : Nat} {ad : Nat → Nat} {r t : sg} {g : gm} (hM : MR E y ad r t g) (hIV : IV r) {k i : Nat} {a b : Int32} (ha : a = nI k) (hk : k < 8) (hbi : b = nI i) (hi : i < nm r) : CM l yX3_mark cX3_mark 4 (some .int) ({ frames := 1, cells := 0, slots := 0, locals := 21 }) E [.ref (y), .int (a), .int (b)] g (fun vv g' => vv = some (.int (markF r k i).2) ∧ MR E y ad (markF r k i).1 t g') := by
  refine CM.of (by decide) (Nat.le_of_ble_eq_true rfl) ?_
  intro p e s m below meth c ls hMX hK hW hl
  obtain ⟨hx, hb, hr, hml, hown, hts, hlk, hnm⟩ := hMX
  have hown : s.vm.findClass RX3 = some m.cls := hown
  have hl : lv_has ls 4 [(0, .ref (y)), (1, .int (a)), (2, .int (b))] := hl
  have hm := hIV.2.2.1 i hi
  have h8 := hm.2.2.2.1
  have hi60 : i < 60 := Nat.lt_of_lt_of_le hi hIV.2.1
  have loop : ¬ r 1 i = 0 → figB (r 0 i) (r 1 i) = true → ∀ (q j : Nat), ix (r 3 i) < j + q → j ≤ ix (r 3 i) → ∀ (g1 : gm) (H : Heap) (locs : List Loc) (ls : Array Slot), PW E (fr g s.heap.size) s.heap H locs g1 → MR E y ad (fillN r i (lowI (r 0 i) (r 13 k)) j) t g1 → lv_has ls 4 [(3, .int (nI j)), (0, .ref (y)), (1, .int (a)), (2, .int (b))] → W p l e ({ frames := 1, cells := 0, slots := 0, locals := 21 }) s m ([.ref (y), .int (a), .int (b)] : List Value).toArray below meth c H locs 0 0 (MQ below (QC E g s.heap.size (fun vv g' => vv = some (.int (markF r k i).2) ∧ MR E y ad (markF r k i).1 t g')) ([.ref (y), .int (a), .int (b)] : List Value).toArray s (Room.cells ({ frames := 1, cells := 0, slots := 0, locals := 21 })) (Room.slots ({ frames := 1, cells := 0, slots := 0, locals := 21 })) (fr g s.heap.size)) (F0 m 82 ls []) := by
    intro hd0 hf0 q
    induction q with
    | zero =>
      intro j h1 h2
      exact absurd h1 (by omega)
    | succ q ih =>
      intro j h1 h2 g1 H locs ls hW hM hl
      have fz : ∀ f p, f ≠ 4 → fillN r i (lowI (r 0 i) (r 13 k)) j f p = r f p := fun f p hf => by rw [fillN_a, if_neg (fun z9 => hf z9.1)]
      refine lv_iload_n hx hb dX3_mark_82 rfl (lv_at hl 0 rfl) ?_
      refine lv_aload_n hx hb dX3_mark_83 rfl (lv_at hl 1 rfl) ?_
      refine m_get hx hb hts hown hK hW hM 4 (by decide) fl_RX3_19 (v := .ref (ad 3)) rfl dX3_mark_84 ?_
      refine lv_iload_n hx hb dX3_mark_87 rfl (lv_at hl 3 rfl) ?_
      refine m_iald 3 (j := i) (v := r 3 i) hx hb hK hW hM (by decide) rfl hbi (show i < 60 from by omega) (fz 3 i (by decide)) dX3_mark_88 ?_
      refine lv_icmp_ge (tgt := 124) hx hb dX3_mark_89 (by decide) (fun c_449 => ?_) (fun c_449 => ?_)
      · skip
        have c_449 := Int32.not_lt.mpr c_449
        have hj9 : j = ix (r 3 i) := by
          rcases Nat.lt_or_ge j (ix (r 3 i)) with q1 | q1
          · exact absurd (by rw [← nI_ix hm.2.2.1, nI_ltI (by omega) (by omega)]; exact q1) c_449
          · omega
        refine lv_iconst (v := 0) hx hb dX3_mark_124 (by decide) ?_
        exact r_int hx hb hr hlk hW (by have e1 : markF r k i = (fillN r i (lowI (r 0 i) (r 13 k)) j, 0) := (by simp [markF, hd0, hf0, hj9]); rw [e1]; exact ⟨rfl, hM⟩) (Nat.le_of_ble_eq_true rfl) (Nat.le_of_ble_eq_true rfl) dX3_mark_125
      · skip
        have c_449 := Int32.not_le.mp c_449
        have hj9 : j < ix (r 3 i) := by
          rw [← nI_ix hm.2.2.1, nI_ltI (by omega) (by omega)] at c_449
          exact c_449
        refine lv_aload_n hx hb dX3_mark_92 rfl (lv_at hl 1 rfl) ?_
        refine m_get hx hb hts hown hK hW hM 5 (by decide) fl_RX3_22 (v := .ref (ad 4)) rfl dX3_mark_93 ?_
        refine lv_bipush (v := 8) hx hb dX3_mark_96 (by decide) ?_
        refine lv_iload_n hx hb dX3_mark_98 rfl (lv_at hl 3 rfl) ?_
        refine lv_imul hx hb dX3_mark_99 ?_
        refine lv_iload_n hx hb dX3_mark_100 rfl (lv_at hl 0 rfl) ?_
        refine lv_iadd hx hb dX3_mark_101 ?_
        refine lv_aload_n hx hb dX3_mark_102 rfl (lv_at hl 1 rfl) ?_
        refine m_get hx hb hts hown hK hW hM 1 (by decide) fl_RX3_7 (v := .ref (ad 0)) rfl dX3_mark_103 ?_
        refine lv_iload_n hx hb dX3_mark_106 rfl (lv_at hl 3 rfl) ?_
        refine m_iald 0 (j := i) (v := r 0 i) hx hb hK hW hM (by decide) rfl hbi (show i < 60 from by omega) (fz 0 i (by decide)) dX3_mark_107 ?_
        refine lv_aload_n hx hb dX3_mark_108 rfl (lv_at hl 1 rfl) ?_
        refine m_get hx hb hts hown hK hW hM 14 (by decide) fl_RX3_50 (v := .ref (ad 13)) rfl dX3_mark_109 ?_
        refine lv_iload_n hx hb dX3_mark_112 rfl (lv_at hl 2 rfl) ?_
        refine m_iald 13 (j := k) (v := r 13 k) hx hb hK hW hM (by decide) rfl ha (show k < 8 from by omega) (fz 13 k (by decide)) dX3_mark_113 ?_
        refine c_stat (own := RX3) (As := [.int (r 0 i), .int (r 13 k)]) (rest := [.int (((8) * (b)) + (nI j)), .ref (ad 4)]) hx hb hml hown hts hK hW (k_X3_cut l _ _) ml_RX3_107 st_yX3_cut in_RX3 cd_yX3_cut 2 (by decide +kernel) ⟨Nat.le_of_ble_eq_true rfl, Nat.le_of_ble_eq_true rfl⟩ rfl hl.1 rfl (Nat.le_of_ble_eq_true rfl) dX3_mark_114 ⟨Nat.le_of_ble_eq_true rfl, Nat.le_of_ble_eq_true rfl⟩ (fun v g2 H1 locs1 hp hW hKT => ?_)
        obtain ⟨rfl, hg⟩ := hp
        rw [hg] at hW
        refine W.eq (g2 := F0 m 117 ls [.int (lowI (r 0 i) (r 13 k)), .int (((8) * (b)) + (nI j)), .ref (ad 4)]) rfl ?_
        refine m_iast 4 (j := 8 * i + j) hx hb hK hW hM (by decide) rfl ((it_e hbi rfl)) (show 8 * i + j < 480 from by omega) dX3_mark_117 (fun H1 locs1 g1 hW hM => ?_)
        refine lv_iinc (v := (nI j) + (1)) (lv' := [(3, .int ((nI j) + (1))), (0, .ref (y)), (1, .int (a)), (2, .int (b))]) hx hb dX3_mark_118 hl (k := 0) rfl rfl (by decide) rfl (fun ls hl => ?_)
        refine lv_goto (tgt := 82) hx hb dX3_mark_121 (by decide) ?_
        exact ih (j + 1) (by omega) (by omega) _ _ _ _ hW hM (by rw [← nI_1]; exact lv_sub hl [0, 1, 2, 3] rfl)
  refine lv_aload_n hx hb dX3_mark_0 rfl (lv_at hl 0 rfl) ?_
  refine m_get hx hb hts hown hK hW hM 2 (by decide) fl_RX3_13 (v := .ref (ad 1)) rfl dX3_mark_1 ?_
  refine lv_iload_n hx hb dX3_mark_4 rfl (lv_at hl 2 rfl) ?_
  refine m_iald 1 (j := i) (v := r 1 i) hx hb hK hW hM (by decide) rfl hbi (show i < 60 from by omega) rfl dX3_mark_5 ?_
  refine lv_if_ne (tgt := 72) hx hb dX3_mark_6 (by decide) (fun c_450 => ?_) (fun c_450 => ?_)
  · skip
    refine lv_aload_n hx hb dX3_mark_72 rfl (lv_at hl 0 rfl) ?_
    refine lv_iload_n hx hb dX3_mark_73 rfl (lv_at hl 2 rfl) ?_
    refine c_virt (own := RX3) (As := [.int (b)]) (rest := []) hx hb hml hown hts hK hW (k_X3_isFigures l hM (i := i) hbi (by omega)) ml_RX3_86 im_yX3_isFigures se_yX3_isFigures in_RX3 cd_yX3_isFigures 1 (by decide +kernel) ⟨Nat.le_of_ble_eq_true rfl, Nat.le_of_ble_eq_true rfl⟩ hM.1 rfl rfl rfl hl.1 rfl (Nat.le_of_ble_eq_true rfl) dX3_mark_74 ⟨Nat.le_of_ble_eq_true rfl, Nat.le_of_ble_eq_true rfl⟩ (fun v g2 H1 locs1 hp hW hKT => ?_)
    obtain ⟨rfl, hg⟩ := hp
    rw [hg] at hW
    refine W.eq (g2 := F0 m 77 ls [.int (bI (figB (r 0 i) (r 1 i)))]) rfl ?_
    refine lv_if_eq (tgt := 126) hx hb dX3_mark_77 (by decide) (fun c_451 => ?_) (fun c_451 => ?_)
    · skip
      have c_451 := (bI_eq0 _).mp c_451
      refine lv_aload_n hx hb dX3_mark_126 rfl (lv_at hl 0 rfl) ?_
      refine m_get hx hb hts hown hK hW hM 4 (by decide) fl_RX3_19 (v := .ref (ad 3)) rfl dX3_mark_127 ?_
      refine lv_iload_n hx hb dX3_mark_130 rfl (lv_at hl 2 rfl) ?_
      refine m_iald 3 (j := i) (v := r 3 i) hx hb hK hW hM (by decide) rfl hbi (show i < 60 from by omega) rfl dX3_mark_131 ?_
      refine lv_if_ne (tgt := 137) hx hb dX3_mark_132 (by decide) (fun c_452 => ?_) (fun c_452 => ?_)
      · skip
        refine lv_aload_n hx hb dX3_mark_137 rfl (lv_at hl 0 rfl) ?_
        refine m_get hx hb hts hown hK hW hM 5 (by decide) fl_RX3_22 (v := .ref (ad 4)) rfl dX3_mark_138 ?_
        refine lv_bipush (v := 8) hx hb dX3_mark_141 (by decide) ?_
        refine lv_iload_n hx hb dX3_mark_143 rfl (lv_at hl 2 rfl) ?_
        refine lv_imul hx hb dX3_mark_144 ?_
        refine lv_iconst (v := -1) hx hb dX3_mark_145 (by decide) ?_
        refine m_iast 4 (j := 8 * i) hx hb hK hW hM (by decide) rfl ((it_0 hbi)) (show 8 * i < 480 from by omega) dX3_mark_146 (fun H1 locs1 g1 hW hM => ?_)
        refine lv_iconst (v := 0) hx hb dX3_mark_147 (by decide) ?_
        exact r_int hx hb hr hlk hW (by have e1 : markF r k i = (s2 r 4 (8 * i) (-1), 0) := (by simp [markF, markS, c_450, c_451, c_452]); rw [e1]; exact ⟨rfl, hM⟩) (Nat.le_of_ble_eq_true rfl) (Nat.le_of_ble_eq_true rfl) dX3_mark_148
      · skip
        refine lv_iconst (v := 2) hx hb dX3_mark_135 (by decide) ?_
        exact r_int hx hb hr hlk hW (by have e1 : markF r k i = (r, 2) := (by simp [markF, markS, c_450, c_451, c_452]); rw [e1]; exact ⟨rfl, hM⟩) (Nat.le_of_ble_eq_true rfl) (Nat.le_of_ble_eq_true rfl) dX3_mark_136
    · skip
      have c_451 := bI_ne0 c_451
      refine lv_iconst (v := 0) hx hb dX3_mark_80 (by decide) ?_
      refine lv_istore_n (lv' := [(3, .int (0)), (0, .ref (y)), (1, .int (a)), (2, .int (b))]) hx hb dX3_mark_81 rfl hl (by decide) rfl (fun ls hl => ?_)
      exact loop c_450 c_451 (ix (r 3 i) + 1) 0 (by omega) (by omega) _ _ _ _ hW hM (lv_sub hl [0, 1, 2, 3] rfl)
  · skip
    refine lv_aload_n hx hb dX3_mark_9 rfl (lv_at hl 0 rfl) ?_
    refine m_get hx hb hts hown hK hW hM 11 (by decide) fl_RX3_41 (v := .ref (ad 10)) rfl dX3_mark_10 ?_
    refine lv_iload_n hx hb dX3_mark_13 rfl (lv_at hl 1 rfl) ?_
    refine m_iald 10 (j := k) (v := r 10 k) hx hb hK hW hM (by decide) rfl ha (show k < 8 from by omega) rfl dX3_mark_14 ?_
    refine lv_iconst (v := 3) hx hb dX3_mark_15 (by decide) ?_
    refine lv_icmp_ne (tgt := 37) hx hb dX3_mark_16 (by decide) (fun c_453 => ?_) (fun c_453 => ?_)
    · skip
      refine lv_aload_n hx hb dX3_mark_37 rfl (lv_at hl 0 rfl) ?_
      refine m_get hx hb hts hown hK hW hM 3 (by decide) fl_RX3_16 (v := .ref (ad 2)) rfl dX3_mark_38 ?_
      refine lv_iload_n hx hb dX3_mark_41 rfl (lv_at hl 2 rfl) ?_
      refine lv_aload_n hx hb dX3_mark_42 rfl (lv_at hl 0 rfl) ?_
      refine m_get hx hb hts hown hK hW hM 1 (by decide) fl_RX3_7 (v := .ref (ad 0)) rfl dX3_mark_43 ?_
      refine lv_iload_n hx hb dX3_mark_46 rfl (lv_at hl 2 rfl) ?_
      refine m_iald 0 (j := i) (v := r 0 i) hx hb hK hW hM (by decide) rfl hbi (show i < 60 from by omega) rfl dX3_mark_47 ?_
      refine lv_iconst (v := 1) hx hb dX3_mark_48 (by decide) ?_
      refine lv_icmp_ne (tgt := 63) hx hb dX3_mark_49 (by decide) (fun c_454 => ?_) (fun c_454 => ?_)
      · skip
        refine lv_aload_n hx hb dX3_mark_63 rfl (lv_at hl 0 rfl) ?_
        refine m_get hx hb hts hown hK hW hM 14 (by decide) fl_RX3_50 (v := .ref (ad 13)) rfl dX3_mark_64 ?_
        refine lv_iload_n hx hb dX3_mark_67 rfl (lv_at hl 1 rfl) ?_
        refine m_iald 13 (j := k) (v := r 13 k) hx hb hK hW hM (by decide) rfl ha (show k < 8 from by omega) rfl dX3_mark_68 ?_
        refine m_iast 2 (j := i) hx hb hK hW hM (by decide) rfl hbi (show i < 60 from by omega) dX3_mark_69 (fun H1 locs1 g1 hW hM => ?_)
        refine lv_iconst (v := 0) hx hb dX3_mark_70 (by decide) ?_
        exact r_int hx hb hr hlk hW (by have e1 : markF r k i = (s2 r 2 i (r 13 k), 0) := (by simp [markF, markS, c_450, c_453, c_454]); rw [e1]; exact ⟨rfl, hM⟩) (Nat.le_of_ble_eq_true rfl) (Nat.le_of_ble_eq_true rfl) dX3_mark_71
      · skip
        refine lv_iconst (v := 2) hx hb dX3_mark_52 (by decide) ?_
        refine lv_aload_n hx hb dX3_mark_53 rfl (lv_at hl 0 rfl) ?_
        refine m_get hx hb hts hown hK hW hM 14 (by decide) fl_RX3_50 (v := .ref (ad 13)) rfl dX3_mark_54 ?_
        refine lv_iload_n hx hb dX3_mark_57 rfl (lv_at hl 1 rfl) ?_
        refine m_iald 13 (j := k) (v := r 13 k) hx hb hK hW hM (by decide) rfl ha (show k < 8 from by omega) rfl dX3_mark_58 ?_
        refine lv_imul hx hb dX3_mark_59 ?_
        refine lv_goto (tgt := 69) hx hb dX3_mark_60 (by decide) ?_
        refine m_iast 2 (j := i) hx hb hK hW hM (by decide) rfl hbi (show i < 60 from by omega) dX3_mark_69 (fun H1 locs1 g1 hW hM => ?_)
        refine lv_iconst (v := 0) hx hb dX3_mark_70 (by decide) ?_
        exact r_int hx hb hr hlk hW (by have e1 : markF r k i = (s2 r 2 i ((2) * (r 13 k)), 0) := (by simp [markF, markS, c_450, c_453, c_454]); rw [e1]; exact ⟨rfl, hM⟩) (Nat.le_of_ble_eq_true rfl) (Nat.le_of_ble_eq_true rfl) dX3_mark_71
    · skip
      refine lv_aload_n hx hb dX3_mark_19 rfl (lv_at hl 0 rfl) ?_
      refine m_get hx hb hts hown hK hW hM 3 (by decide) fl_RX3_16 (v := .ref (ad 2)) rfl dX3_mark_20 ?_
      refine lv_iload_n hx hb dX3_mark_23 rfl (lv_at hl 2 rfl) ?_
      refine lv_dup2_11 hx hb dX3_mark_24 rfl rfl ?_
      refine m_iald 2 (j := i) (v := r 2 i) hx hb hK hW hM (by decide) rfl hbi (show i < 60 from by omega) rfl dX3_mark_25 ?_
      refine lv_aload_n hx hb dX3_mark_26 rfl (lv_at hl 0 rfl) ?_
      refine m_get hx hb hts hown hK hW hM 14 (by decide) fl_RX3_50 (v := .ref (ad 13)) rfl dX3_mark_27 ?_
      refine lv_iload_n hx hb dX3_mark_30 rfl (lv_at hl 1 rfl) ?_
      refine m_iald 13 (j := k) (v := r 13 k) hx hb hK hW hM (by decide) rfl ha (show k < 8 from by omega) rfl dX3_mark_31 ?_
      refine lv_isub hx hb dX3_mark_32 ?_
      refine m_iast 2 (j := i) hx hb hK hW hM (by decide) rfl hbi (show i < 60 from by omega) dX3_mark_33 (fun H1 locs1 g1 hW hM => ?_)
      refine lv_goto (tgt := 70) hx hb dX3_mark_34 (by decide) ?_
      refine lv_iconst (v := 0) hx hb dX3_mark_70 (by decide) ?_
      exact r_int hx hb hr hlk hW (by have e1 : markF r k i = (s2 r 2 i ((r 2 i) - (r 13 k)), 0) := (by simp [markF, markS, c_450, c_453]); rw [e1]; exact ⟨rfl, hM⟩) (Nat.le_of_ble_eq_true rfl) (Nat.le_of_ble_eq_true rfl) dX3_mark_71

set_option maxHeartbeats 4000000 in
set_option maxRecDepth 100000 in
theorem k_X3_lay (l : Launch) {E : gE} {y : Nat} {ad : Nat → Nat} {r t : sg} {g : gm} (hM : MR E y ad r t g) (hIV : IV r) {k i : Nat} {a b : Int32} (ha : a = nI k) (hk : k < 8) (hbi : b = nI i) (hi : i < nm r) (hs : r 5 k ≠ 0) : CM l yX3_lay cX3_lay 4 (some .int) ({ frames := 3, cells := 0, slots := 0, locals := 66 }) E [.ref (y), .int (a), .int (b)] g (fun vv g' => vv = some (.int (layF r k i).2) ∧ MR E y ad (layF r k i).1 t g') := by
  refine CM.of (by decide) (Nat.le_of_ble_eq_true rfl) ?_
  intro p e s m below meth c ls hM hK hW hl
  obtain ⟨hx, hb, hr, hml, hown, hts, hlk, hnm⟩ := hM
  have hown : s.vm.findClass RX3 = some m.cls := hown
  have hl : lv_has ls 4 [(0, .ref (y)), (1, .int (a)), (2, .int (b))] := hl
  have hm := hIV.2.2.1 i hi
  have hi60 : i < 60 := Nat.lt_of_lt_of_le hi hIV.2.1
  have hxx := own_v hIV.2.1 ((hIV.2.2.2 k hk).2.2.2 hs).1
  refine lv_aload_n hx hb dX3_lay_0 rfl (lv_at hl 0 rfl) ?_
  refine m_get hx hb hts hown hK hW hM 15 (by decide) fl_RX3_53 (v := .ref (ad 14)) rfl dX3_lay_1 ?_
  refine lv_iload_n hx hb dX3_lay_4 rfl (lv_at hl 1 rfl) ?_
  refine m_iald 14 (j := k) (v := r 14 k) hx hb hK hW hM (by decide) rfl ha (show k < 8 from by omega) rfl dX3_lay_5 ?_
  refine lv_istore_n (lv' := [(3, .int (r 14 k)), (0, .ref (y)), (1, .int (a)), (2, .int (b))]) hx hb dX3_lay_6 rfl hl (by decide) rfl (fun ls hl => ?_)
  refine lv_iload_n hx hb dX3_lay_7 rfl (lv_at hl 0 rfl) ?_
  refine lv_iconst (v := -1) hx hb dX3_lay_8 (by decide) ?_
  refine lv_icmp_eq (tgt := 36) hx hb dX3_lay_9 (by decide) (fun c_455 => ?_) (fun c_455 => ?_)
  · skip
    refine lv_aload_n hx hb dX3_lay_36 rfl (lv_at hl 1 rfl) ?_
    refine m_get hx hb hts hown hK hW hM 14 (by decide) fl_RX3_50 (v := .ref (ad 13)) rfl dX3_lay_37 ?_
    refine lv_iload_n hx hb dX3_lay_40 rfl (lv_at hl 2 rfl) ?_
    refine m_iald 13 (j := k) (v := r 13 k) hx hb hK hW hM (by decide) rfl ha (show k < 8 from by omega) rfl dX3_lay_41 ?_
    refine lv_iconst (v := 0) hx hb dX3_lay_42 (by decide) ?_
    refine lv_aload_n hx hb dX3_lay_43 rfl (lv_at hl 1 rfl) ?_
    refine m_get hx hb hts hown hK hW hM 4 (by decide) fl_RX3_19 (v := .ref (ad 3)) rfl dX3_lay_44 ?_
    refine lv_iload_n hx hb dX3_lay_47 rfl (lv_at hl 3 rfl) ?_
    refine m_iald 3 (j := i) (v := r 3 i) hx hb hK hW hM (by decide) rfl hbi (show i < 60 from by omega) rfl dX3_lay_48 ?_
    refine lv_iconst (v := 1) hx hb dX3_lay_49 (by decide) ?_
    refine lv_isub hx hb dX3_lay_50 ?_
    refine c_stat (own := RX3) (As := [.int (r 13 k), .int (0), .int ((r 3 i) - (1))]) (rest := []) hx hb hml hown hts hK hW (k_X3_in l _ _ _) ml_RX3_78 st_yX3_in in_RX3 cd_yX3_in 3 (by decide +kernel) ⟨Nat.le_of_ble_eq_true rfl, Nat.le_of_ble_eq_true rfl⟩ rfl hl.1 rfl (Nat.le_of_ble_eq_true rfl) dX3_lay_51 ⟨Nat.le_of_ble_eq_true rfl, Nat.le_of_ble_eq_true rfl⟩ (fun v g2 H1 locs1 hp hW hKT => ?_)
    obtain ⟨rfl, hg⟩ := hp
    rw [hg] at hW
    refine W.eq (g2 := F0 m 54 ls [.int (bI (mIn (r 13 k) (0) ((r 3 i) - (1))))]) rfl ?_
    refine lv_if_ne (tgt := 59) hx hb dX3_lay_54 (by decide) (fun c_456 => ?_) (fun c_456 => ?_)
    · skip
      have c_456 := bI_ne0 c_456
      have hb_457 := inB_lt (by rw [← mIn_in hm.2.2.1 hm.2.2.2.1]; exact c_456) hm.2.2.1
      have hb_458 : ix (r 13 k) < 8 := Nat.lt_of_lt_of_le hb_457.2 hm.2.2.2.1
      refine lv_aload_n hx hb dX3_lay_59 rfl (lv_at hl 1 rfl) ?_
      refine lv_iload_n hx hb dX3_lay_60 rfl (lv_at hl 3 rfl) ?_
      refine lv_iload_n hx hb dX3_lay_61 rfl (lv_at hl 0 rfl) ?_
      refine c_virt (own := RX3) (As := [.int (b), .int (r 14 k)]) (rest := []) hx hb hml hown hts hK hW (k_X3_holds l hM (i := i) hbi (by omega) hxx) ml_RX3_103 im_yX3_holds se_yX3_holds in_RX3 cd_yX3_holds 2 (by decide +kernel) ⟨Nat.le_of_ble_eq_true rfl, Nat.le_of_ble_eq_true rfl⟩ hM.1 rfl rfl rfl hl.1 rfl (Nat.le_of_ble_eq_true rfl) dX3_lay_62 ⟨Nat.le_of_ble_eq_true rfl, Nat.le_of_ble_eq_true rfl⟩ (fun v g2 H1 locs1 hp hW hKT => ?_)
      obtain ⟨rfl, hg⟩ := hp
      rw [hg] at hW
      refine W.eq (g2 := F0 m 65 ls [.int (bI (holdB r i (r 14 k)))]) rfl ?_
      refine lv_if_ne (tgt := 70) hx hb dX3_lay_65 (by decide) (fun c_459 => ?_) (fun c_459 => ?_)
      · skip
        have c_459 := bI_ne0 c_459
        refine lv_aload_n hx hb dX3_lay_70 rfl (lv_at hl 1 rfl) ?_
        refine m_get hx hb hts hown hK hW hM 5 (by decide) fl_RX3_22 (v := .ref (ad 4)) rfl dX3_lay_71 ?_
        refine lv_bipush (v := 8) hx hb dX3_lay_74 (by decide) ?_
        refine lv_iload_n hx hb dX3_lay_76 rfl (lv_at hl 3 rfl) ?_
        refine lv_imul hx hb dX3_lay_77 ?_
        refine lv_aload_n hx hb dX3_lay_78 rfl (lv_at hl 1 rfl) ?_
        refine m_get hx hb hts hown hK hW hM 14 (by decide) fl_RX3_50 (v := .ref (ad 13)) rfl dX3_lay_79 ?_
        refine lv_iload_n hx hb dX3_lay_82 rfl (lv_at hl 2 rfl) ?_
        refine m_iald 13 (j := k) (v := r 13 k) hx hb hK hW hM (by decide) rfl ha (show k < 8 from by omega) rfl dX3_lay_83 ?_
        refine lv_iadd hx hb dX3_lay_84 ?_
        refine lv_iload_n hx hb dX3_lay_85 rfl (lv_at hl 0 rfl) ?_
        refine m_iast 4 (j := 8 * i + (ix (r 13 k))) hx hb hK hW hM (by decide) rfl ((it_e hbi ((nI_ix hb_457.1).symm))) (show 8 * i + (ix (r 13 k)) < 480 from by omega) dX3_lay_86 (fun H1 locs1 g1 hW hM => ?_)
        refine lv_iconst (v := 0) hx hb dX3_lay_87 (by decide) ?_
        exact r_int hx hb hr hlk hW (by have e1 : layF r k i = (s2 r 4 (8 * i + (ix (r 13 k))) (r 14 k), 0) := (by simp only [layF, ← mIn_in hm.2.2.1 hm.2.2.2.1]; first | (simp [c_455, c_456, c_459]; done) | (simp_all; done)); rw [e1]; exact ⟨rfl, hM⟩) (Nat.le_of_ble_eq_true rfl) (Nat.le_of_ble_eq_true rfl) dX3_lay_88
      · skip
        have c_459 := (bI_eq0 _).mp c_459
        refine lv_iconst (v := 3) hx hb dX3_lay_68 (by decide) ?_
        exact r_int hx hb hr hlk hW (by have e1 : layF r k i = (r, 3) := (by simp only [layF, ← mIn_in hm.2.2.1 hm.2.2.2.1]; first | (simp [c_455, c_456, c_459]; done) | (simp_all; done)); rw [e1]; exact ⟨rfl, hM⟩) (Nat.le_of_ble_eq_true rfl) (Nat.le_of_ble_eq_true rfl) dX3_lay_69
    · skip
      have c_456 := (bI_eq0 _).mp c_456
      refine lv_iconst (v := 2) hx hb dX3_lay_57 (by decide) ?_
      exact r_int hx hb hr hlk hW (by have e1 : layF r k i = (r, 2) := (by simp only [layF, ← mIn_in hm.2.2.1 hm.2.2.2.1]; first | (simp [c_455, c_456]; done) | (simp_all; done)); rw [e1]; exact ⟨rfl, hM⟩) (Nat.le_of_ble_eq_true rfl) (Nat.le_of_ble_eq_true rfl) dX3_lay_58
  · skip
    have hq := hxx.resolve_left c_455
    have hq2 := hq.2
    refine lv_aload_n hx hb dX3_lay_12 rfl (lv_at hl 1 rfl) ?_
    refine lv_iload_n hx hb dX3_lay_13 rfl (lv_at hl 0 rfl) ?_
    refine lv_aload_n hx hb dX3_lay_14 rfl (lv_at hl 1 rfl) ?_
    refine m_get hx hb hts hown hK hW hM 11 (by decide) fl_RX3_41 (v := .ref (ad 10)) rfl dX3_lay_15 ?_
    refine lv_iload_n hx hb dX3_lay_18 rfl (lv_at hl 2 rfl) ?_
    refine m_iald 10 (j := k) (v := r 10 k) hx hb hK hW hM (by decide) rfl ha (show k < 8 from by omega) rfl dX3_lay_19 ?_
    refine lv_aload_n hx hb dX3_lay_20 rfl (lv_at hl 1 rfl) ?_
    refine m_get hx hb hts hown hK hW hM 12 (by decide) fl_RX3_44 (v := .ref (ad 11)) rfl dX3_lay_21 ?_
    refine lv_iload_n hx hb dX3_lay_24 rfl (lv_at hl 2 rfl) ?_
    refine m_iald 11 (j := k) (v := r 11 k) hx hb hK hW hM (by decide) rfl ha (show k < 8 from by omega) rfl dX3_lay_25 ?_
    refine lv_iconst (v := 1) hx hb dX3_lay_26 (by decide) ?_
    refine lv_isub hx hb dX3_lay_27 ?_
    refine c_virt (own := RX3) (As := [.int (r 14 k), .int (r 10 k), .int ((r 11 k) - (1))]) (rest := []) hx hb hml hown hts hK hW (k_X3_isOf l hM (i := ix (r 14 k)) ((nI_ix hq.1).symm) (by omega) _ _) ml_RX3_90 im_yX3_isOf se_yX3_isOf in_RX3 cd_yX3_isOf 3 (by decide +kernel) ⟨Nat.le_of_ble_eq_true rfl, Nat.le_of_ble_eq_true rfl⟩ hM.1 rfl rfl rfl hl.1 rfl (Nat.le_of_ble_eq_true rfl) dX3_lay_28 ⟨Nat.le_of_ble_eq_true rfl, Nat.le_of_ble_eq_true rfl⟩ (fun v g2 H1 locs1 hp hW hKT => ?_)
    obtain ⟨rfl, hg⟩ := hp
    rw [hg] at hW
    refine W.eq (g2 := F0 m 31 ls [.int (bI (fitB r (ix (r 14 k)) (r 10 k) ((r 11 k) - (1))))]) rfl ?_
    refine lv_if_ne (tgt := 36) hx hb dX3_lay_31 (by decide) (fun c_460 => ?_) (fun c_460 => ?_)
    · skip
      have c_460 := bI_ne0 c_460
      refine lv_aload_n hx hb dX3_lay_36 rfl (lv_at hl 1 rfl) ?_
      refine m_get hx hb hts hown hK hW hM 14 (by decide) fl_RX3_50 (v := .ref (ad 13)) rfl dX3_lay_37 ?_
      refine lv_iload_n hx hb dX3_lay_40 rfl (lv_at hl 2 rfl) ?_
      refine m_iald 13 (j := k) (v := r 13 k) hx hb hK hW hM (by decide) rfl ha (show k < 8 from by omega) rfl dX3_lay_41 ?_
      refine lv_iconst (v := 0) hx hb dX3_lay_42 (by decide) ?_
      refine lv_aload_n hx hb dX3_lay_43 rfl (lv_at hl 1 rfl) ?_
      refine m_get hx hb hts hown hK hW hM 4 (by decide) fl_RX3_19 (v := .ref (ad 3)) rfl dX3_lay_44 ?_
      refine lv_iload_n hx hb dX3_lay_47 rfl (lv_at hl 3 rfl) ?_
      refine m_iald 3 (j := i) (v := r 3 i) hx hb hK hW hM (by decide) rfl hbi (show i < 60 from by omega) rfl dX3_lay_48 ?_
      refine lv_iconst (v := 1) hx hb dX3_lay_49 (by decide) ?_
      refine lv_isub hx hb dX3_lay_50 ?_
      refine c_stat (own := RX3) (As := [.int (r 13 k), .int (0), .int ((r 3 i) - (1))]) (rest := []) hx hb hml hown hts hK hW (k_X3_in l _ _ _) ml_RX3_78 st_yX3_in in_RX3 cd_yX3_in 3 (by decide +kernel) ⟨Nat.le_of_ble_eq_true rfl, Nat.le_of_ble_eq_true rfl⟩ rfl hl.1 rfl (Nat.le_of_ble_eq_true rfl) dX3_lay_51 ⟨Nat.le_of_ble_eq_true rfl, Nat.le_of_ble_eq_true rfl⟩ (fun v g2 H1 locs1 hp hW hKT => ?_)
      obtain ⟨rfl, hg⟩ := hp
      rw [hg] at hW
      refine W.eq (g2 := F0 m 54 ls [.int (bI (mIn (r 13 k) (0) ((r 3 i) - (1))))]) rfl ?_
      refine lv_if_ne (tgt := 59) hx hb dX3_lay_54 (by decide) (fun c_461 => ?_) (fun c_461 => ?_)
      · skip
        have c_461 := bI_ne0 c_461
        have hb_462 := inB_lt (by rw [← mIn_in hm.2.2.1 hm.2.2.2.1]; exact c_461) hm.2.2.1
        have hb_463 : ix (r 13 k) < 8 := Nat.lt_of_lt_of_le hb_462.2 hm.2.2.2.1
        refine lv_aload_n hx hb dX3_lay_59 rfl (lv_at hl 1 rfl) ?_
        refine lv_iload_n hx hb dX3_lay_60 rfl (lv_at hl 3 rfl) ?_
        refine lv_iload_n hx hb dX3_lay_61 rfl (lv_at hl 0 rfl) ?_
        refine c_virt (own := RX3) (As := [.int (b), .int (r 14 k)]) (rest := []) hx hb hml hown hts hK hW (k_X3_holds l hM (i := i) hbi (by omega) hxx) ml_RX3_103 im_yX3_holds se_yX3_holds in_RX3 cd_yX3_holds 2 (by decide +kernel) ⟨Nat.le_of_ble_eq_true rfl, Nat.le_of_ble_eq_true rfl⟩ hM.1 rfl rfl rfl hl.1 rfl (Nat.le_of_ble_eq_true rfl) dX3_lay_62 ⟨Nat.le_of_ble_eq_true rfl, Nat.le_of_ble_eq_true rfl⟩ (fun v g2 H1 locs1 hp hW hKT => ?_)
        obtain ⟨rfl, hg⟩ := hp
        rw [hg] at hW
        refine W.eq (g2 := F0 m 65 ls [.int (bI (holdB r i (r 14 k)))]) rfl ?_
        refine lv_if_ne (tgt := 70) hx hb dX3_lay_65 (by decide) (fun c_464 => ?_) (fun c_464 => ?_)
        · skip
          have c_464 := bI_ne0 c_464
          refine lv_aload_n hx hb dX3_lay_70 rfl (lv_at hl 1 rfl) ?_
          refine m_get hx hb hts hown hK hW hM 5 (by decide) fl_RX3_22 (v := .ref (ad 4)) rfl dX3_lay_71 ?_
          refine lv_bipush (v := 8) hx hb dX3_lay_74 (by decide) ?_
          refine lv_iload_n hx hb dX3_lay_76 rfl (lv_at hl 3 rfl) ?_
          refine lv_imul hx hb dX3_lay_77 ?_
          refine lv_aload_n hx hb dX3_lay_78 rfl (lv_at hl 1 rfl) ?_
          refine m_get hx hb hts hown hK hW hM 14 (by decide) fl_RX3_50 (v := .ref (ad 13)) rfl dX3_lay_79 ?_
          refine lv_iload_n hx hb dX3_lay_82 rfl (lv_at hl 2 rfl) ?_
          refine m_iald 13 (j := k) (v := r 13 k) hx hb hK hW hM (by decide) rfl ha (show k < 8 from by omega) rfl dX3_lay_83 ?_
          refine lv_iadd hx hb dX3_lay_84 ?_
          refine lv_iload_n hx hb dX3_lay_85 rfl (lv_at hl 0 rfl) ?_
          refine m_iast 4 (j := 8 * i + (ix (r 13 k))) hx hb hK hW hM (by decide) rfl ((it_e hbi ((nI_ix hb_462.1).symm))) (show 8 * i + (ix (r 13 k)) < 480 from by omega) dX3_lay_86 (fun H1 locs1 g1 hW hM => ?_)
          refine lv_iconst (v := 0) hx hb dX3_lay_87 (by decide) ?_
          exact r_int hx hb hr hlk hW (by have e1 : layF r k i = (s2 r 4 (8 * i + (ix (r 13 k))) (r 14 k), 0) := (by simp only [layF, ← mIn_in hm.2.2.1 hm.2.2.2.1]; first | (simp [c_455, c_460, c_461, c_464]; done) | (simp_all; done)); rw [e1]; exact ⟨rfl, hM⟩) (Nat.le_of_ble_eq_true rfl) (Nat.le_of_ble_eq_true rfl) dX3_lay_88
        · skip
          have c_464 := (bI_eq0 _).mp c_464
          refine lv_iconst (v := 3) hx hb dX3_lay_68 (by decide) ?_
          exact r_int hx hb hr hlk hW (by have e1 : layF r k i = (r, 3) := (by simp only [layF, ← mIn_in hm.2.2.1 hm.2.2.2.1]; first | (simp [c_455, c_460, c_461, c_464]; done) | (simp_all; done)); rw [e1]; exact ⟨rfl, hM⟩) (Nat.le_of_ble_eq_true rfl) (Nat.le_of_ble_eq_true rfl) dX3_lay_69
      · skip
        have c_461 := (bI_eq0 _).mp c_461
        refine lv_iconst (v := 2) hx hb dX3_lay_57 (by decide) ?_
        exact r_int hx hb hr hlk hW (by have e1 : layF r k i = (r, 2) := (by simp only [layF, ← mIn_in hm.2.2.1 hm.2.2.2.1]; first | (simp [c_455, c_460, c_461]; done) | (simp_all; done)); rw [e1]; exact ⟨rfl, hM⟩) (Nat.le_of_ble_eq_true rfl) (Nat.le_of_ble_eq_true rfl) dX3_lay_58
    · skip
      have c_460 := (bI_eq0 _).mp c_460
      refine lv_iconst (v := 1) hx hb dX3_lay_34 (by decide) ?_
      exact r_int hx hb hr hlk hW (by have e1 : layF r k i = (r, 1) := (by simp only [layF, ← mIn_in hm.2.2.1 hm.2.2.2.1]; first | (simp [c_455, c_460]; done) | (simp_all; done)); rw [e1]; exact ⟨rfl, hM⟩) (Nat.le_of_ble_eq_true rfl) (Nat.le_of_ble_eq_true rfl) dX3_lay_35

set_option maxHeartbeats 4000000 in
set_option maxRecDepth 100000 in
theorem k_X3_over (l : Launch) {E : gE} {y : Nat} {ad : Nat → Nat} {r t : sg} {g : gm} (hM : MR E y ad r t g) {lv c0 : Nat} {a : Int32} (ha : a = nI lv) (hlv : lv < 40) (hc0 : t 2 lv = nI c0) (hc8 : c0 < 8) (hIVk : IVk r c0) (b : Int32) : CM l yX3_over cX3_over 4 (some .int) ({ frames := 0, cells := 0, slots := 0, locals := 0 }) E [.ref (y), .int (a), .int (b)] g (fun vv g' => vv = some (.int (overV r c0 b)) ∧ MR E y ad (overR r c0 b) t g') := by
  refine CM.of (by decide) (Nat.le_of_ble_eq_true rfl) ?_
  intro p e s m below meth c ls hM hK hW hl
  obtain ⟨hx, hb, hr, hml, hown, hts, hlk, hnm⟩ := hM
  have hown : s.vm.findClass RX3 = some m.cls := hown
  have hl : lv_has ls 4 [(0, .ref (y)), (1, .int (a)), (2, .int (b))] := hl
  refine lv_aload_n hx hb dX3_over_0 rfl (lv_at hl 0 rfl) ?_
  refine m_get hx hb hts hown hK hW hM 27 (by decide) fl_RX3_68 (v := .ref (ad 19)) rfl dX3_over_1 ?_
  refine lv_iload_n hx hb dX3_over_4 rfl (lv_at hl 1 rfl) ?_
  refine m_iald 19 (j := lv) (v := t 2 lv) hx hb hK hW hM (by decide) rfl ha (show lv < 40 from by omega) rfl dX3_over_5 ?_
  refine lv_istore_n (lv' := [(3, .int (t 2 lv)), (0, .ref (y)), (1, .int (a)), (2, .int (b))]) hx hb dX3_over_6 rfl hl (by decide) rfl (fun ls hl => ?_)
  refine lv_aload_n hx hb dX3_over_7 rfl (lv_at hl 1 rfl) ?_
  refine m_get hx hb hts hown hK hW hM 16 (by decide) fl_RX3_56 (v := .ref (ad 15)) rfl dX3_over_8 ?_
  refine lv_iload_n hx hb dX3_over_11 rfl (lv_at hl 0 rfl) ?_
  refine lv_dup2_11 hx hb dX3_over_12 rfl rfl ?_
  refine m_iald 15 (j := c0) (v := r 15 c0) hx hb hK hW hM (by decide) rfl hc0 (show c0 < 8 from by omega) rfl dX3_over_13 ?_
  refine lv_iconst (v := 1) hx hb dX3_over_14 (by decide) ?_
  refine lv_iadd hx hb dX3_over_15 ?_
  refine m_iast 15 (j := c0) hx hb hK hW hM (by decide) rfl hc0 (show c0 < 8 from by omega) dX3_over_16 (fun H1 locs1 g1 hW hM => ?_)
  have hM : MR E y ad (metF r c0) t g1 := hM
  refine lv_iload_n hx hb dX3_over_17 rfl (lv_at hl 3 rfl) ?_
  refine lv_if_ne (tgt := 33) hx hb dX3_over_18 (by decide) (fun c_465 => ?_) (fun c_465 => ?_)
  · skip
    refine lv_aload_n hx hb dX3_over_33 rfl (lv_at hl 1 rfl) ?_
    refine m_get hx hb hts hown hK hW hM 17 (by decide) fl_RX3_59 (v := .ref (ad 16)) rfl dX3_over_34 ?_
    refine lv_iload_n hx hb dX3_over_37 rfl (lv_at hl 0 rfl) ?_
    refine lv_dup2_11 hx hb dX3_over_38 rfl rfl ?_
    refine m_iald 16 (j := c0) (v := (metF r c0) 16 c0) hx hb hK hW hM (by decide) rfl hc0 (show c0 < 8 from by omega) rfl dX3_over_39 ?_
    refine lv_iconst (v := 1) hx hb dX3_over_40 (by decide) ?_
    refine lv_iadd hx hb dX3_over_41 ?_
    refine m_iast 16 (j := c0) hx hb hK hW hM (by decide) rfl hc0 (show c0 < 8 from by omega) dX3_over_42 (fun H1 locs1 g1 hW hM => ?_)
    have hM : MR E y ad (fall1 (metF r c0) c0) t g1 := hM
    refine lv_aload_n hx hb dX3_over_43 rfl (lv_at hl 1 rfl) ?_
    refine m_get hx hb hts hown hK hW hM 7 (by decide) fl_RX3_29 (v := .ref (ad 6)) rfl dX3_over_44 ?_
    refine lv_iload_n hx hb dX3_over_47 rfl (lv_at hl 0 rfl) ?_
    refine lv_aload_n hx hb dX3_over_48 rfl (lv_at hl 1 rfl) ?_
    refine m_get hx hb hts hown hK hW hM 7 (by decide) fl_RX3_29 (v := .ref (ad 6)) rfl dX3_over_49 ?_
    refine lv_iload_n hx hb dX3_over_52 rfl (lv_at hl 0 rfl) ?_
    refine m_zald 6 (j := c0) (v := (fall1 (metF r c0) c0) 6 c0) hx hb hK hW hM (by decide) rfl hc0 (show c0 < 8 from by omega) rfl dX3_over_53 ?_
    refine lv_if_ne (tgt := 68) hx hb dX3_over_54 (by decide) (fun c_466 => ?_) (fun c_466 => ?_)
    · skip
      refine lv_iconst (v := 1) hx hb dX3_over_68 (by decide) ?_
      refine lv_goto (tgt := 73) hx hb dX3_over_69 (by decide) ?_
      refine m_zast 6 (j := c0) hx hb hK hW hM (by decide) rfl hc0 (show c0 < 8 from by omega) rfl dX3_over_73 (fun H1 locs1 g1 hW hM => ?_)
      have hM : MR E y ad (fall2 (fall1 (metF r c0) c0) c0) t g1 := by
        have e9 : s2 (fall1 (metF r c0) c0) 6 c0 (1) = fall2 (fall1 (metF r c0) c0) c0 := fall2_A (((hIVk.2.1.1).resolve_left c_466 : r 6 c0 = 1))
        rw [← e9]; exact hM
      refine lv_aload_n hx hb dX3_over_74 rfl (lv_at hl 1 rfl) ?_
      refine lv_dup hx hb dX3_over_75 rfl ?_
      refine m_get hx hb hts hown hK hW hM 22 (by decide) fl_RX3_136 (v := .int ((fall2 (fall1 (metF r c0) c0) c0) 17 5)) rfl dX3_over_76 ?_
      refine lv_iconst (v := 1) hx hb dX3_over_79 (by decide) ?_
      refine lv_iadd hx hb dX3_over_80 ?_
      refine m_put (r' := s2 (fall2 (fall1 (metF r c0) c0) c0) 17 5 (((fall2 (fall1 (metF r c0) c0) c0) 17 5) + (1))) (t' := t) hx hb hts hown hK hW hM 22 (by decide) fl_RX3_136 rfl rfl (fun f hf => s2_f _ _ _ (by omega)) (fun _ _ => rfl) rfl dX3_over_81 (fun H1 locs1 g1 hW hM => ?_)
      have hM : MR E y ad (tinc (fall2 (fall1 (metF r c0) c0) c0) 5) t g1 := hM
      refine lv_aload_n hx hb dX3_over_84 rfl (lv_at hl 1 rfl) ?_
      refine lv_aload_n hx hb dX3_over_85 rfl (lv_at hl 1 rfl) ?_
      refine m_get hx hb hts hown hK hW hM 23 (by decide) fl_RX3_139 (v := .int ((tinc (fall2 (fall1 (metF r c0) c0) c0) 5) 17 6)) rfl dX3_over_86 ?_
      refine lv_iconst (v := -1) hx hb dX3_over_89 (by decide) ?_
      refine lv_icmp_ne (tgt := 97) hx hb dX3_over_90 (by decide) (fun c_467 => ?_) (fun c_467 => ?_)
      · skip
        refine lv_aload_n hx hb dX3_over_97 rfl (lv_at hl 1 rfl) ?_
        refine m_get hx hb hts hown hK hW hM 23 (by decide) fl_RX3_139 (v := .int ((tinc (fall2 (fall1 (metF r c0) c0) c0) 5) 17 6)) rfl dX3_over_98 ?_
        refine m_put (r' := s2 (tinc (fall2 (fall1 (metF r c0) c0) c0) 5) 17 6 ((tinc (fall2 (fall1 (metF r c0) c0) c0) 5) 17 6)) (t' := t) hx hb hts hown hK hW hM 23 (by decide) fl_RX3_139 rfl rfl (fun f hf => s2_f _ _ _ (by omega)) (fun _ _ => rfl) rfl dX3_over_101 (fun H1 locs1 g1 hW hM => ?_)
        have hM : MR E y ad (fallF (metF r c0) c0) t g1 := by
          have e9 : fallF (metF r c0) c0 = tinc (fall2 (fall1 (metF r c0) c0) c0) 5 := (if_neg (c := (tinc (fall2 (fall1 (metF r c0) c0) c0) 5) 17 6 = -1) c_467)
          rw [e9]; rw [s2_id rfl] at hM; exact hM
        refine lv_aload_n hx hb dX3_over_104 rfl (lv_at hl 1 rfl) ?_
        refine m_get hx hb hts hown hK hW hM 8 (by decide) fl_RX3_32 (v := .ref (ad 7)) rfl dX3_over_105 ?_
        refine lv_iload_n hx hb dX3_over_108 rfl (lv_at hl 0 rfl) ?_
        refine m_zald 7 (j := c0) (v := (fallF (metF r c0) c0) 7 c0) hx hb hK hW hM (by decide) rfl hc0 (show c0 < 8 from by omega) rfl dX3_over_109 ?_
        refine lv_if_eq (tgt := 123) hx hb dX3_over_110 (by decide) (fun c_468 => ?_) (fun c_468 => ?_)
        · skip
          refine lv_bipush (v := -10) hx hb dX3_over_123 (by decide) ?_
          refine lv_iload_n hx hb dX3_over_125 rfl (lv_at hl 3 rfl) ?_
          refine lv_isub hx hb dX3_over_126 ?_
          exact r_int hx hb hr hlk hW (by have e1 : overV r c0 b = (-10) - (b) := (by simp [overV, c_465, c_466, c_467, c_468]); have e2 : overR r c0 b = fallF (metF r c0) c0 := (by simp [overR, c_465, c_466, c_467, c_468]); rw [e1, e2]; exact ⟨by rfl, hM⟩) (Nat.le_of_ble_eq_true rfl) (Nat.le_of_ble_eq_true rfl) dX3_over_127
        · skip
          refine lv_iload_n hx hb dX3_over_113 rfl (lv_at hl 3 rfl) ?_
          refine lv_iconst (v := 5) hx hb dX3_over_114 (by decide) ?_
          refine lv_icmp_eq (tgt := 123) hx hb dX3_over_115 (by decide) (fun c_469 => ?_) (fun c_469 => ?_)
          · skip
            refine lv_bipush (v := -10) hx hb dX3_over_123 (by decide) ?_
            refine lv_iload_n hx hb dX3_over_125 rfl (lv_at hl 3 rfl) ?_
            refine lv_isub hx hb dX3_over_126 ?_
            exact r_int hx hb hr hlk hW (by have e1 : overV r c0 b = (-10) - (b) := (by simp [overV, c_465, c_466, c_467, c_468, c_469]); have e2 : overR r c0 b = fallF (metF r c0) c0 := (by simp [overR, c_465, c_466, c_467, c_468, c_469]); rw [e1, e2]; exact ⟨by rfl, hM⟩) (Nat.le_of_ble_eq_true rfl) (Nat.le_of_ble_eq_true rfl) dX3_over_127
          · skip
            refine lv_bipush (v := -100) hx hb dX3_over_118 (by decide) ?_
            refine lv_goto (tgt := 127) hx hb dX3_over_120 (by decide) ?_
            exact r_int hx hb hr hlk hW (by have e1 : overV r c0 b = -100 := (by simp [overV, c_465, c_466, c_467, c_468, c_469]); have e2 : overR r c0 b = fallF (metF r c0) c0 := (by simp [overR, c_465, c_466, c_467, c_468, c_469]); rw [e1, e2]; exact ⟨by rfl, hM⟩) (Nat.le_of_ble_eq_true rfl) (Nat.le_of_ble_eq_true rfl) dX3_over_127
      · skip
        refine lv_iload_n hx hb dX3_over_93 rfl (lv_at hl 0 rfl) ?_
        refine lv_goto (tgt := 101) hx hb dX3_over_94 (by decide) ?_
        refine m_put (r' := s2 (tinc (fall2 (fall1 (metF r c0) c0) c0) 5) 17 6 (t 2 lv)) (t' := t) hx hb hts hown hK hW hM 23 (by decide) fl_RX3_139 rfl rfl (fun f hf => s2_f _ _ _ (by omega)) (fun _ _ => rfl) rfl dX3_over_101 (fun H1 locs1 g1 hW hM => ?_)
        have hM : MR E y ad (fallF (metF r c0) c0) t g1 := by
          have e9 : fallF (metF r c0) c0 = s2 (tinc (fall2 (fall1 (metF r c0) c0) c0) 5) 17 6 (nI c0) := (if_pos (c := (tinc (fall2 (fall1 (metF r c0) c0) c0) 5) 17 6 = -1) c_467)
          rw [e9, ← hc0]; exact hM
        refine lv_aload_n hx hb dX3_over_104 rfl (lv_at hl 1 rfl) ?_
        refine m_get hx hb hts hown hK hW hM 8 (by decide) fl_RX3_32 (v := .ref (ad 7)) rfl dX3_over_105 ?_
        refine lv_iload_n hx hb dX3_over_108 rfl (lv_at hl 0 rfl) ?_
        refine m_zald 7 (j := c0) (v := (fallF (metF r c0) c0) 7 c0) hx hb hK hW hM (by decide) rfl hc0 (show c0 < 8 from by omega) rfl dX3_over_109 ?_
        refine lv_if_eq (tgt := 123) hx hb dX3_over_110 (by decide) (fun c_470 => ?_) (fun c_470 => ?_)
        · skip
          refine lv_bipush (v := -10) hx hb dX3_over_123 (by decide) ?_
          refine lv_iload_n hx hb dX3_over_125 rfl (lv_at hl 3 rfl) ?_
          refine lv_isub hx hb dX3_over_126 ?_
          exact r_int hx hb hr hlk hW (by have e1 : overV r c0 b = (-10) - (b) := (by simp [overV, c_465, c_466, c_467, c_470]); have e2 : overR r c0 b = fallF (metF r c0) c0 := (by simp [overR, c_465, c_466, c_467, c_470]); rw [e1, e2]; exact ⟨by rfl, hM⟩) (Nat.le_of_ble_eq_true rfl) (Nat.le_of_ble_eq_true rfl) dX3_over_127
        · skip
          refine lv_iload_n hx hb dX3_over_113 rfl (lv_at hl 3 rfl) ?_
          refine lv_iconst (v := 5) hx hb dX3_over_114 (by decide) ?_
          refine lv_icmp_eq (tgt := 123) hx hb dX3_over_115 (by decide) (fun c_471 => ?_) (fun c_471 => ?_)
          · skip
            refine lv_bipush (v := -10) hx hb dX3_over_123 (by decide) ?_
            refine lv_iload_n hx hb dX3_over_125 rfl (lv_at hl 3 rfl) ?_
            refine lv_isub hx hb dX3_over_126 ?_
            exact r_int hx hb hr hlk hW (by have e1 : overV r c0 b = (-10) - (b) := (by simp [overV, c_465, c_466, c_467, c_470, c_471]); have e2 : overR r c0 b = fallF (metF r c0) c0 := (by simp [overR, c_465, c_466, c_467, c_470, c_471]); rw [e1, e2]; exact ⟨by rfl, hM⟩) (Nat.le_of_ble_eq_true rfl) (Nat.le_of_ble_eq_true rfl) dX3_over_127
          · skip
            refine lv_bipush (v := -100) hx hb dX3_over_118 (by decide) ?_
            refine lv_goto (tgt := 127) hx hb dX3_over_120 (by decide) ?_
            exact r_int hx hb hr hlk hW (by have e1 : overV r c0 b = -100 := (by simp [overV, c_465, c_466, c_467, c_470, c_471]); have e2 : overR r c0 b = fallF (metF r c0) c0 := (by simp [overR, c_465, c_466, c_467, c_470, c_471]); rw [e1, e2]; exact ⟨by rfl, hM⟩) (Nat.le_of_ble_eq_true rfl) (Nat.le_of_ble_eq_true rfl) dX3_over_127
    · skip
      refine lv_aload_n hx hb dX3_over_57 rfl (lv_at hl 1 rfl) ?_
      refine m_get hx hb hts hown hK hW hM 17 (by decide) fl_RX3_59 (v := .ref (ad 16)) rfl dX3_over_58 ?_
      refine lv_iload_n hx hb dX3_over_61 rfl (lv_at hl 0 rfl) ?_
      refine m_iald 16 (j := c0) (v := (fall1 (metF r c0) c0) 16 c0) hx hb hK hW hM (by decide) rfl hc0 (show c0 < 8 from by omega) rfl dX3_over_62 ?_
      refine lv_iconst (v := 3) hx hb dX3_over_63 (by decide) ?_
      refine lv_irem hx hb dX3_over_64 (by decide) ?_
      refine lv_if_ne (tgt := 72) hx hb dX3_over_65 (by decide) (fun c_472 => ?_) (fun c_472 => ?_)
      · skip
        refine lv_iconst (v := 0) hx hb dX3_over_72 (by decide) ?_
        refine m_zast 6 (j := c0) hx hb hK hW hM (by decide) rfl hc0 (show c0 < 8 from by omega) rfl dX3_over_73 (fun H1 locs1 g1 hW hM => ?_)
        have hM : MR E y ad (fall2 (fall1 (metF r c0) c0) c0) t g1 := by
          have e9 : s2 (fall1 (metF r c0) c0) 6 c0 (0) = fall2 (fall1 (metF r c0) c0) c0 := fall2_C (show (fall1 (metF r c0) c0) 6 c0 = 0 from c_466) c_472
          rw [← e9]; exact hM
        refine lv_aload_n hx hb dX3_over_74 rfl (lv_at hl 1 rfl) ?_
        refine lv_dup hx hb dX3_over_75 rfl ?_
        refine m_get hx hb hts hown hK hW hM 22 (by decide) fl_RX3_136 (v := .int ((fall2 (fall1 (metF r c0) c0) c0) 17 5)) rfl dX3_over_76 ?_
        refine lv_iconst (v := 1) hx hb dX3_over_79 (by decide) ?_
        refine lv_iadd hx hb dX3_over_80 ?_
        refine m_put (r' := s2 (fall2 (fall1 (metF r c0) c0) c0) 17 5 (((fall2 (fall1 (metF r c0) c0) c0) 17 5) + (1))) (t' := t) hx hb hts hown hK hW hM 22 (by decide) fl_RX3_136 rfl rfl (fun f hf => s2_f _ _ _ (by omega)) (fun _ _ => rfl) rfl dX3_over_81 (fun H1 locs1 g1 hW hM => ?_)
        have hM : MR E y ad (tinc (fall2 (fall1 (metF r c0) c0) c0) 5) t g1 := hM
        refine lv_aload_n hx hb dX3_over_84 rfl (lv_at hl 1 rfl) ?_
        refine lv_aload_n hx hb dX3_over_85 rfl (lv_at hl 1 rfl) ?_
        refine m_get hx hb hts hown hK hW hM 23 (by decide) fl_RX3_139 (v := .int ((tinc (fall2 (fall1 (metF r c0) c0) c0) 5) 17 6)) rfl dX3_over_86 ?_
        refine lv_iconst (v := -1) hx hb dX3_over_89 (by decide) ?_
        refine lv_icmp_ne (tgt := 97) hx hb dX3_over_90 (by decide) (fun c_473 => ?_) (fun c_473 => ?_)
        · skip
          refine lv_aload_n hx hb dX3_over_97 rfl (lv_at hl 1 rfl) ?_
          refine m_get hx hb hts hown hK hW hM 23 (by decide) fl_RX3_139 (v := .int ((tinc (fall2 (fall1 (metF r c0) c0) c0) 5) 17 6)) rfl dX3_over_98 ?_
          refine m_put (r' := s2 (tinc (fall2 (fall1 (metF r c0) c0) c0) 5) 17 6 ((tinc (fall2 (fall1 (metF r c0) c0) c0) 5) 17 6)) (t' := t) hx hb hts hown hK hW hM 23 (by decide) fl_RX3_139 rfl rfl (fun f hf => s2_f _ _ _ (by omega)) (fun _ _ => rfl) rfl dX3_over_101 (fun H1 locs1 g1 hW hM => ?_)
          have hM : MR E y ad (fallF (metF r c0) c0) t g1 := by
            have e9 : fallF (metF r c0) c0 = tinc (fall2 (fall1 (metF r c0) c0) c0) 5 := (if_neg (c := (tinc (fall2 (fall1 (metF r c0) c0) c0) 5) 17 6 = -1) c_473)
            rw [e9]; rw [s2_id rfl] at hM; exact hM
          refine lv_aload_n hx hb dX3_over_104 rfl (lv_at hl 1 rfl) ?_
          refine m_get hx hb hts hown hK hW hM 8 (by decide) fl_RX3_32 (v := .ref (ad 7)) rfl dX3_over_105 ?_
          refine lv_iload_n hx hb dX3_over_108 rfl (lv_at hl 0 rfl) ?_
          refine m_zald 7 (j := c0) (v := (fallF (metF r c0) c0) 7 c0) hx hb hK hW hM (by decide) rfl hc0 (show c0 < 8 from by omega) rfl dX3_over_109 ?_
          refine lv_if_eq (tgt := 123) hx hb dX3_over_110 (by decide) (fun c_474 => ?_) (fun c_474 => ?_)
          · skip
            refine lv_bipush (v := -10) hx hb dX3_over_123 (by decide) ?_
            refine lv_iload_n hx hb dX3_over_125 rfl (lv_at hl 3 rfl) ?_
            refine lv_isub hx hb dX3_over_126 ?_
            exact r_int hx hb hr hlk hW (by have e1 : overV r c0 b = (-10) - (b) := (by simp [overV, c_465, c_466, c_472, c_473, c_474]); have e2 : overR r c0 b = fallF (metF r c0) c0 := (by simp [overR, c_465, c_466, c_472, c_473, c_474]); rw [e1, e2]; exact ⟨by rfl, hM⟩) (Nat.le_of_ble_eq_true rfl) (Nat.le_of_ble_eq_true rfl) dX3_over_127
          · skip
            refine lv_iload_n hx hb dX3_over_113 rfl (lv_at hl 3 rfl) ?_
            refine lv_iconst (v := 5) hx hb dX3_over_114 (by decide) ?_
            refine lv_icmp_eq (tgt := 123) hx hb dX3_over_115 (by decide) (fun c_475 => ?_) (fun c_475 => ?_)
            · skip
              refine lv_bipush (v := -10) hx hb dX3_over_123 (by decide) ?_
              refine lv_iload_n hx hb dX3_over_125 rfl (lv_at hl 3 rfl) ?_
              refine lv_isub hx hb dX3_over_126 ?_
              exact r_int hx hb hr hlk hW (by have e1 : overV r c0 b = (-10) - (b) := (by simp [overV, c_465, c_466, c_472, c_473, c_474, c_475]); have e2 : overR r c0 b = fallF (metF r c0) c0 := (by simp [overR, c_465, c_466, c_472, c_473, c_474, c_475]); rw [e1, e2]; exact ⟨by rfl, hM⟩) (Nat.le_of_ble_eq_true rfl) (Nat.le_of_ble_eq_true rfl) dX3_over_127
            · skip
              refine lv_bipush (v := -100) hx hb dX3_over_118 (by decide) ?_
              refine lv_goto (tgt := 127) hx hb dX3_over_120 (by decide) ?_
              exact r_int hx hb hr hlk hW (by have e1 : overV r c0 b = -100 := (by simp [overV, c_465, c_466, c_472, c_473, c_474, c_475]); have e2 : overR r c0 b = fallF (metF r c0) c0 := (by simp [overR, c_465, c_466, c_472, c_473, c_474, c_475]); rw [e1, e2]; exact ⟨by rfl, hM⟩) (Nat.le_of_ble_eq_true rfl) (Nat.le_of_ble_eq_true rfl) dX3_over_127
        · skip
          refine lv_iload_n hx hb dX3_over_93 rfl (lv_at hl 0 rfl) ?_
          refine lv_goto (tgt := 101) hx hb dX3_over_94 (by decide) ?_
          refine m_put (r' := s2 (tinc (fall2 (fall1 (metF r c0) c0) c0) 5) 17 6 (t 2 lv)) (t' := t) hx hb hts hown hK hW hM 23 (by decide) fl_RX3_139 rfl rfl (fun f hf => s2_f _ _ _ (by omega)) (fun _ _ => rfl) rfl dX3_over_101 (fun H1 locs1 g1 hW hM => ?_)
          have hM : MR E y ad (fallF (metF r c0) c0) t g1 := by
            have e9 : fallF (metF r c0) c0 = s2 (tinc (fall2 (fall1 (metF r c0) c0) c0) 5) 17 6 (nI c0) := (if_pos (c := (tinc (fall2 (fall1 (metF r c0) c0) c0) 5) 17 6 = -1) c_473)
            rw [e9, ← hc0]; exact hM
          refine lv_aload_n hx hb dX3_over_104 rfl (lv_at hl 1 rfl) ?_
          refine m_get hx hb hts hown hK hW hM 8 (by decide) fl_RX3_32 (v := .ref (ad 7)) rfl dX3_over_105 ?_
          refine lv_iload_n hx hb dX3_over_108 rfl (lv_at hl 0 rfl) ?_
          refine m_zald 7 (j := c0) (v := (fallF (metF r c0) c0) 7 c0) hx hb hK hW hM (by decide) rfl hc0 (show c0 < 8 from by omega) rfl dX3_over_109 ?_
          refine lv_if_eq (tgt := 123) hx hb dX3_over_110 (by decide) (fun c_476 => ?_) (fun c_476 => ?_)
          · skip
            refine lv_bipush (v := -10) hx hb dX3_over_123 (by decide) ?_
            refine lv_iload_n hx hb dX3_over_125 rfl (lv_at hl 3 rfl) ?_
            refine lv_isub hx hb dX3_over_126 ?_
            exact r_int hx hb hr hlk hW (by have e1 : overV r c0 b = (-10) - (b) := (by simp [overV, c_465, c_466, c_472, c_473, c_476]); have e2 : overR r c0 b = fallF (metF r c0) c0 := (by simp [overR, c_465, c_466, c_472, c_473, c_476]); rw [e1, e2]; exact ⟨by rfl, hM⟩) (Nat.le_of_ble_eq_true rfl) (Nat.le_of_ble_eq_true rfl) dX3_over_127
          · skip
            refine lv_iload_n hx hb dX3_over_113 rfl (lv_at hl 3 rfl) ?_
            refine lv_iconst (v := 5) hx hb dX3_over_114 (by decide) ?_
            refine lv_icmp_eq (tgt := 123) hx hb dX3_over_115 (by decide) (fun c_477 => ?_) (fun c_477 => ?_)
            · skip
              refine lv_bipush (v := -10) hx hb dX3_over_123 (by decide) ?_
              refine lv_iload_n hx hb dX3_over_125 rfl (lv_at hl 3 rfl) ?_
              refine lv_isub hx hb dX3_over_126 ?_
              exact r_int hx hb hr hlk hW (by have e1 : overV r c0 b = (-10) - (b) := (by simp [overV, c_465, c_466, c_472, c_473, c_476, c_477]); have e2 : overR r c0 b = fallF (metF r c0) c0 := (by simp [overR, c_465, c_466, c_472, c_473, c_476, c_477]); rw [e1, e2]; exact ⟨by rfl, hM⟩) (Nat.le_of_ble_eq_true rfl) (Nat.le_of_ble_eq_true rfl) dX3_over_127
            · skip
              refine lv_bipush (v := -100) hx hb dX3_over_118 (by decide) ?_
              refine lv_goto (tgt := 127) hx hb dX3_over_120 (by decide) ?_
              exact r_int hx hb hr hlk hW (by have e1 : overV r c0 b = -100 := (by simp [overV, c_465, c_466, c_472, c_473, c_476, c_477]); have e2 : overR r c0 b = fallF (metF r c0) c0 := (by simp [overR, c_465, c_466, c_472, c_473, c_476, c_477]); rw [e1, e2]; exact ⟨by rfl, hM⟩) (Nat.le_of_ble_eq_true rfl) (Nat.le_of_ble_eq_true rfl) dX3_over_127
      · skip
        refine lv_iconst (v := 1) hx hb dX3_over_68 (by decide) ?_
        refine lv_goto (tgt := 73) hx hb dX3_over_69 (by decide) ?_
        refine m_zast 6 (j := c0) hx hb hK hW hM (by decide) rfl hc0 (show c0 < 8 from by omega) rfl dX3_over_73 (fun H1 locs1 g1 hW hM => ?_)
        have hM : MR E y ad (fall2 (fall1 (metF r c0) c0) c0) t g1 := by
          have e9 : s2 (fall1 (metF r c0) c0) 6 c0 (1) = fall2 (fall1 (metF r c0) c0) c0 := (if_pos (c := rem3 ((fall1 (metF r c0) c0) 16 c0) = 0) c_472).symm
          rw [← e9]; exact hM
        refine lv_aload_n hx hb dX3_over_74 rfl (lv_at hl 1 rfl) ?_
        refine lv_dup hx hb dX3_over_75 rfl ?_
        refine m_get hx hb hts hown hK hW hM 22 (by decide) fl_RX3_136 (v := .int ((fall2 (fall1 (metF r c0) c0) c0) 17 5)) rfl dX3_over_76 ?_
        refine lv_iconst (v := 1) hx hb dX3_over_79 (by decide) ?_
        refine lv_iadd hx hb dX3_over_80 ?_
        refine m_put (r' := s2 (fall2 (fall1 (metF r c0) c0) c0) 17 5 (((fall2 (fall1 (metF r c0) c0) c0) 17 5) + (1))) (t' := t) hx hb hts hown hK hW hM 22 (by decide) fl_RX3_136 rfl rfl (fun f hf => s2_f _ _ _ (by omega)) (fun _ _ => rfl) rfl dX3_over_81 (fun H1 locs1 g1 hW hM => ?_)
        have hM : MR E y ad (tinc (fall2 (fall1 (metF r c0) c0) c0) 5) t g1 := hM
        refine lv_aload_n hx hb dX3_over_84 rfl (lv_at hl 1 rfl) ?_
        refine lv_aload_n hx hb dX3_over_85 rfl (lv_at hl 1 rfl) ?_
        refine m_get hx hb hts hown hK hW hM 23 (by decide) fl_RX3_139 (v := .int ((tinc (fall2 (fall1 (metF r c0) c0) c0) 5) 17 6)) rfl dX3_over_86 ?_
        refine lv_iconst (v := -1) hx hb dX3_over_89 (by decide) ?_
        refine lv_icmp_ne (tgt := 97) hx hb dX3_over_90 (by decide) (fun c_478 => ?_) (fun c_478 => ?_)
        · skip
          refine lv_aload_n hx hb dX3_over_97 rfl (lv_at hl 1 rfl) ?_
          refine m_get hx hb hts hown hK hW hM 23 (by decide) fl_RX3_139 (v := .int ((tinc (fall2 (fall1 (metF r c0) c0) c0) 5) 17 6)) rfl dX3_over_98 ?_
          refine m_put (r' := s2 (tinc (fall2 (fall1 (metF r c0) c0) c0) 5) 17 6 ((tinc (fall2 (fall1 (metF r c0) c0) c0) 5) 17 6)) (t' := t) hx hb hts hown hK hW hM 23 (by decide) fl_RX3_139 rfl rfl (fun f hf => s2_f _ _ _ (by omega)) (fun _ _ => rfl) rfl dX3_over_101 (fun H1 locs1 g1 hW hM => ?_)
          have hM : MR E y ad (fallF (metF r c0) c0) t g1 := by
            have e9 : fallF (metF r c0) c0 = tinc (fall2 (fall1 (metF r c0) c0) c0) 5 := (if_neg (c := (tinc (fall2 (fall1 (metF r c0) c0) c0) 5) 17 6 = -1) c_478)
            rw [e9]; rw [s2_id rfl] at hM; exact hM
          refine lv_aload_n hx hb dX3_over_104 rfl (lv_at hl 1 rfl) ?_
          refine m_get hx hb hts hown hK hW hM 8 (by decide) fl_RX3_32 (v := .ref (ad 7)) rfl dX3_over_105 ?_
          refine lv_iload_n hx hb dX3_over_108 rfl (lv_at hl 0 rfl) ?_
          refine m_zald 7 (j := c0) (v := (fallF (metF r c0) c0) 7 c0) hx hb hK hW hM (by decide) rfl hc0 (show c0 < 8 from by omega) rfl dX3_over_109 ?_
          refine lv_if_eq (tgt := 123) hx hb dX3_over_110 (by decide) (fun c_479 => ?_) (fun c_479 => ?_)
          · skip
            refine lv_bipush (v := -10) hx hb dX3_over_123 (by decide) ?_
            refine lv_iload_n hx hb dX3_over_125 rfl (lv_at hl 3 rfl) ?_
            refine lv_isub hx hb dX3_over_126 ?_
            exact r_int hx hb hr hlk hW (by have e1 : overV r c0 b = (-10) - (b) := (by simp [overV, c_465, c_466, c_472, c_478, c_479]); have e2 : overR r c0 b = fallF (metF r c0) c0 := (by simp [overR, c_465, c_466, c_472, c_478, c_479]); rw [e1, e2]; exact ⟨by rfl, hM⟩) (Nat.le_of_ble_eq_true rfl) (Nat.le_of_ble_eq_true rfl) dX3_over_127
          · skip
            refine lv_iload_n hx hb dX3_over_113 rfl (lv_at hl 3 rfl) ?_
            refine lv_iconst (v := 5) hx hb dX3_over_114 (by decide) ?_
            refine lv_icmp_eq (tgt := 123) hx hb dX3_over_115 (by decide) (fun c_480 => ?_) (fun c_480 => ?_)
            · skip
              refine lv_bipush (v := -10) hx hb dX3_over_123 (by decide) ?_
              refine lv_iload_n hx hb dX3_over_125 rfl (lv_at hl 3 rfl) ?_
              refine lv_isub hx hb dX3_over_126 ?_
              exact r_int hx hb hr hlk hW (by have e1 : overV r c0 b = (-10) - (b) := (by simp [overV, c_465, c_466, c_472, c_478, c_479, c_480]); have e2 : overR r c0 b = fallF (metF r c0) c0 := (by simp [overR, c_465, c_466, c_472, c_478, c_479, c_480]); rw [e1, e2]; exact ⟨by rfl, hM⟩) (Nat.le_of_ble_eq_true rfl) (Nat.le_of_ble_eq_true rfl) dX3_over_127
            · skip
              refine lv_bipush (v := -100) hx hb dX3_over_118 (by decide) ?_
              refine lv_goto (tgt := 127) hx hb dX3_over_120 (by decide) ?_
              exact r_int hx hb hr hlk hW (by have e1 : overV r c0 b = -100 := (by simp [overV, c_465, c_466, c_472, c_478, c_479, c_480]); have e2 : overR r c0 b = fallF (metF r c0) c0 := (by simp [overR, c_465, c_466, c_472, c_478, c_479, c_480]); rw [e1, e2]; exact ⟨by rfl, hM⟩) (Nat.le_of_ble_eq_true rfl) (Nat.le_of_ble_eq_true rfl) dX3_over_127
        · skip
          refine lv_iload_n hx hb dX3_over_93 rfl (lv_at hl 0 rfl) ?_
          refine lv_goto (tgt := 101) hx hb dX3_over_94 (by decide) ?_
          refine m_put (r' := s2 (tinc (fall2 (fall1 (metF r c0) c0) c0) 5) 17 6 (t 2 lv)) (t' := t) hx hb hts hown hK hW hM 23 (by decide) fl_RX3_139 rfl rfl (fun f hf => s2_f _ _ _ (by omega)) (fun _ _ => rfl) rfl dX3_over_101 (fun H1 locs1 g1 hW hM => ?_)
          have hM : MR E y ad (fallF (metF r c0) c0) t g1 := by
            have e9 : fallF (metF r c0) c0 = s2 (tinc (fall2 (fall1 (metF r c0) c0) c0) 5) 17 6 (nI c0) := (if_pos (c := (tinc (fall2 (fall1 (metF r c0) c0) c0) 5) 17 6 = -1) c_478)
            rw [e9, ← hc0]; exact hM
          refine lv_aload_n hx hb dX3_over_104 rfl (lv_at hl 1 rfl) ?_
          refine m_get hx hb hts hown hK hW hM 8 (by decide) fl_RX3_32 (v := .ref (ad 7)) rfl dX3_over_105 ?_
          refine lv_iload_n hx hb dX3_over_108 rfl (lv_at hl 0 rfl) ?_
          refine m_zald 7 (j := c0) (v := (fallF (metF r c0) c0) 7 c0) hx hb hK hW hM (by decide) rfl hc0 (show c0 < 8 from by omega) rfl dX3_over_109 ?_
          refine lv_if_eq (tgt := 123) hx hb dX3_over_110 (by decide) (fun c_481 => ?_) (fun c_481 => ?_)
          · skip
            refine lv_bipush (v := -10) hx hb dX3_over_123 (by decide) ?_
            refine lv_iload_n hx hb dX3_over_125 rfl (lv_at hl 3 rfl) ?_
            refine lv_isub hx hb dX3_over_126 ?_
            exact r_int hx hb hr hlk hW (by have e1 : overV r c0 b = (-10) - (b) := (by simp [overV, c_465, c_466, c_472, c_478, c_481]); have e2 : overR r c0 b = fallF (metF r c0) c0 := (by simp [overR, c_465, c_466, c_472, c_478, c_481]); rw [e1, e2]; exact ⟨by rfl, hM⟩) (Nat.le_of_ble_eq_true rfl) (Nat.le_of_ble_eq_true rfl) dX3_over_127
          · skip
            refine lv_iload_n hx hb dX3_over_113 rfl (lv_at hl 3 rfl) ?_
            refine lv_iconst (v := 5) hx hb dX3_over_114 (by decide) ?_
            refine lv_icmp_eq (tgt := 123) hx hb dX3_over_115 (by decide) (fun c_482 => ?_) (fun c_482 => ?_)
            · skip
              refine lv_bipush (v := -10) hx hb dX3_over_123 (by decide) ?_
              refine lv_iload_n hx hb dX3_over_125 rfl (lv_at hl 3 rfl) ?_
              refine lv_isub hx hb dX3_over_126 ?_
              exact r_int hx hb hr hlk hW (by have e1 : overV r c0 b = (-10) - (b) := (by simp [overV, c_465, c_466, c_472, c_478, c_481, c_482]); have e2 : overR r c0 b = fallF (metF r c0) c0 := (by simp [overR, c_465, c_466, c_472, c_478, c_481, c_482]); rw [e1, e2]; exact ⟨by rfl, hM⟩) (Nat.le_of_ble_eq_true rfl) (Nat.le_of_ble_eq_true rfl) dX3_over_127
            · skip
              refine lv_bipush (v := -100) hx hb dX3_over_118 (by decide) ?_
              refine lv_goto (tgt := 127) hx hb dX3_over_120 (by decide) ?_
              exact r_int hx hb hr hlk hW (by have e1 : overV r c0 b = -100 := (by simp [overV, c_465, c_466, c_472, c_478, c_481, c_482]); have e2 : overR r c0 b = fallF (metF r c0) c0 := (by simp [overR, c_465, c_466, c_472, c_478, c_481, c_482]); rw [e1, e2]; exact ⟨by rfl, hM⟩) (Nat.le_of_ble_eq_true rfl) (Nat.le_of_ble_eq_true rfl) dX3_over_127
  · skip
    refine lv_aload_n hx hb dX3_over_21 rfl (lv_at hl 1 rfl) ?_
    refine lv_dup hx hb dX3_over_22 rfl ?_
    refine m_get hx hb hts hown hK hW hM 20 (by decide) fl_RX3_133 (v := .int ((metF r c0) 17 3)) rfl dX3_over_23 ?_
    refine lv_iconst (v := 1) hx hb dX3_over_26 (by decide) ?_
    refine lv_iadd hx hb dX3_over_27 ?_
    refine m_put (r' := s2 (metF r c0) 17 3 (((metF r c0) 17 3) + (1))) (t' := t) hx hb hts hown hK hW hM 20 (by decide) fl_RX3_133 rfl rfl (fun f hf => s2_f _ _ _ (by omega)) (fun _ _ => rfl) rfl dX3_over_28 (fun H1 locs1 g1 hW hM => ?_)
    have hM : MR E y ad (tinc (metF r c0) 3) t g1 := hM
    refine lv_iload_n hx hb dX3_over_31 rfl (lv_at hl 0 rfl) ?_
    exact r_int hx hb hr hlk hW (by have e1 : overV r c0 b = nI c0 := (by simp [overV, c_465]); have e2 : overR r c0 b = tinc (metF r c0) 3 := (by simp [overR, c_465]); rw [e1, e2]; exact ⟨by rw [hc0], hM⟩) (Nat.le_of_ble_eq_true rfl) (Nat.le_of_ble_eq_true rfl) dX3_over_32
end
