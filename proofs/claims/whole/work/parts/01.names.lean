-- ===== PART A: goes FIRST, ahead of the names: the tables' words, and 'selects' of the private methods out of them =====
/-- a private method of a class that the tables say can be made, by its rows of tables_1 -/
def lw_okq (q : MethodName × Nat) : Prop := (q.1.cls ≠ "java/lang/invoke/MethodHandle" ∧ q.1.cls ≠ "java/lang/invoke/VarHandle") ∧ Cond.instantiable q.1.cls q.2 ∈ tables_1 ∧ Cond.privateMethod q.1 ∈ tables_1 ∧ Cond.instanceMethod q.1 ∈ tables_1
theorem lw_p0 : lw_okq (⟨"ManyGoods$WayTable", "measure", "(LManyGoods$Net;I)V"⟩, 4) := ⟨⟨by decide +kernel, by decide +kernel⟩, List.mem_of_getElem? (i := 103) (by decide +kernel), List.mem_of_getElem? (i := 370) (by decide +kernel), List.mem_of_getElem? (i := 371) (by decide +kernel)⟩
theorem lw_p1 : lw_okq (⟨"ManyGoods$WayTable", "walk", "(LManyGoods$Net;IIIII)V"⟩, 4) := ⟨⟨by decide +kernel, by decide +kernel⟩, List.mem_of_getElem? (i := 103) (by decide +kernel), List.mem_of_getElem? (i := 374) (by decide +kernel), List.mem_of_getElem? (i := 375) (by decide +kernel)⟩
theorem lw_p2 : lw_okq (⟨"ManyGoods$WayTable", "isWorthwhile", "(III)Z"⟩, 4) := ⟨⟨by decide +kernel, by decide +kernel⟩, List.mem_of_getElem? (i := 103) (by decide +kernel), List.mem_of_getElem? (i := 389) (by decide +kernel), List.mem_of_getElem? (i := 390) (by decide +kernel)⟩
theorem lw_p3 : lw_okq (⟨"ManyGoods$WayTable", "follow", "(LManyGoods$Net;IIIII)V"⟩, 4) := ⟨⟨by decide +kernel, by decide +kernel⟩, List.mem_of_getElem? (i := 103) (by decide +kernel), List.mem_of_getElem? (i := 397) (by decide +kernel), List.mem_of_getElem? (i := 398) (by decide +kernel)⟩
theorem lw_p4 : lw_okq (⟨"ManyGoods", "refreshPlan", "()V"⟩, 10) := ⟨⟨by decide +kernel, by decide +kernel⟩, List.mem_of_getElem? (i := 14) (by decide +kernel), List.mem_of_getElem? (i := 413) (by decide +kernel), List.mem_of_getElem? (i := 414) (by decide +kernel)⟩
theorem lw_p5 : lw_okq (⟨"ManyGoods$Planner", "prepare", "(LManyGoods$Net;LManyGoods$WayTable;)V"⟩, 7) := ⟨⟨by decide +kernel, by decide +kernel⟩, List.mem_of_getElem? (i := 172) (by decide +kernel), List.mem_of_getElem? (i := 421) (by decide +kernel), List.mem_of_getElem? (i := 422) (by decide +kernel)⟩
theorem lw_p6 : lw_okq (⟨"ManyGoods$Planner", "choose", "(LManyGoods$Net;LManyGoods$WayTable;III)V"⟩, 7) := ⟨⟨by decide +kernel, by decide +kernel⟩, List.mem_of_getElem? (i := 172) (by decide +kernel), List.mem_of_getElem? (i := 429) (by decide +kernel), List.mem_of_getElem? (i := 430) (by decide +kernel)⟩
theorem lw_p7 : lw_okq (⟨"ManyGoods$Planner", "mayBeBetter", "(II)Z"⟩, 7) := ⟨⟨by decide +kernel, by decide +kernel⟩, List.mem_of_getElem? (i := 172) (by decide +kernel), List.mem_of_getElem? (i := 433) (by decide +kernel), List.mem_of_getElem? (i := 434) (by decide +kernel)⟩
theorem lw_p8 : lw_okq (⟨"ManyGoods$Planner", "keep", "(III)V"⟩, 7) := ⟨⟨by decide +kernel, by decide +kernel⟩, List.mem_of_getElem? (i := 172) (by decide +kernel), List.mem_of_getElem? (i := 437) (by decide +kernel), List.mem_of_getElem? (i := 438) (by decide +kernel)⟩
theorem lw_p9 : lw_okq (⟨"ManyGoods$Planner", "serve", "(LManyGoods$Net;LManyGoods$WayTable;IIII)V"⟩, 7) := ⟨⟨by decide +kernel, by decide +kernel⟩, List.mem_of_getElem? (i := 172) (by decide +kernel), List.mem_of_getElem? (i := 445) (by decide +kernel), List.mem_of_getElem? (i := 446) (by decide +kernel)⟩
theorem lw_p10 : lw_okq (⟨"ManyGoods$Planner", "leaveOut", "(LManyGoods$Net;LManyGoods$WayTable;III)V"⟩, 7) := ⟨⟨by decide +kernel, by decide +kernel⟩, List.mem_of_getElem? (i := 172) (by decide +kernel), List.mem_of_getElem? (i := 453) (by decide +kernel), List.mem_of_getElem? (i := 454) (by decide +kernel)⟩
theorem lw_p11 : lw_okq (⟨"ManyGoods", "areTriedThere", "()Z"⟩, 10) := ⟨⟨by decide +kernel, by decide +kernel⟩, List.mem_of_getElem? (i := 14) (by decide +kernel), List.mem_of_getElem? (i := 492) (by decide +kernel), List.mem_of_getElem? (i := 493) (by decide +kernel)⟩
theorem lw_p12 : lw_okq (⟨"ManyGoods", "triedWorth", "()I"⟩, 10) := ⟨⟨by decide +kernel, by decide +kernel⟩, List.mem_of_getElem? (i := 14) (by decide +kernel), List.mem_of_getElem? (i := 496) (by decide +kernel), List.mem_of_getElem? (i := 497) (by decide +kernel)⟩
theorem lw_p13 : lw_okq (⟨"ManyGoods", "triedCost", "()I"⟩, 10) := ⟨⟨by decide +kernel, by decide +kernel⟩, List.mem_of_getElem? (i := 14) (by decide +kernel), List.mem_of_getElem? (i := 500) (by decide +kernel), List.mem_of_getElem? (i := 501) (by decide +kernel)⟩
theorem lw_p14 : lw_okq (⟨"ManyGoods", "refreshRates", "()V"⟩, 10) := ⟨⟨by decide +kernel, by decide +kernel⟩, List.mem_of_getElem? (i := 14) (by decide +kernel), List.mem_of_getElem? (i := 512) (by decide +kernel), List.mem_of_getElem? (i := 513) (by decide +kernel)⟩
theorem lw_p15 : lw_okq (⟨"ManyGoods$FairRates", "findTightest", "(LManyGoods$Net;LManyGoods$WayTable;)I"⟩, 6) := ⟨⟨by decide +kernel, by decide +kernel⟩, List.mem_of_getElem? (i := 217) (by decide +kernel), List.mem_of_getElem? (i := 520) (by decide +kernel), List.mem_of_getElem? (i := 521) (by decide +kernel)⟩
def lw_privs_1 : List (MethodName × Nat) := [(⟨"ManyGoods$WayTable", "measure", "(LManyGoods$Net;I)V"⟩, 4), (⟨"ManyGoods$WayTable", "walk", "(LManyGoods$Net;IIIII)V"⟩, 4), (⟨"ManyGoods$WayTable", "isWorthwhile", "(III)Z"⟩, 4), (⟨"ManyGoods$WayTable", "follow", "(LManyGoods$Net;IIIII)V"⟩, 4), (⟨"ManyGoods", "refreshPlan", "()V"⟩, 10), (⟨"ManyGoods$Planner", "prepare", "(LManyGoods$Net;LManyGoods$WayTable;)V"⟩, 7), (⟨"ManyGoods$Planner", "choose", "(LManyGoods$Net;LManyGoods$WayTable;III)V"⟩, 7), (⟨"ManyGoods$Planner", "mayBeBetter", "(II)Z"⟩, 7), (⟨"ManyGoods$Planner", "keep", "(III)V"⟩, 7), (⟨"ManyGoods$Planner", "serve", "(LManyGoods$Net;LManyGoods$WayTable;IIII)V"⟩, 7), (⟨"ManyGoods$Planner", "leaveOut", "(LManyGoods$Net;LManyGoods$WayTable;III)V"⟩, 7), (⟨"ManyGoods", "areTriedThere", "()Z"⟩, 10), (⟨"ManyGoods", "triedWorth", "()I"⟩, 10), (⟨"ManyGoods", "triedCost", "()I"⟩, 10), (⟨"ManyGoods", "refreshRates", "()V"⟩, 10), (⟨"ManyGoods$FairRates", "findTightest", "(LManyGoods$Net;LManyGoods$WayTable;)I"⟩, 6)]
theorem lw_r1 : ∀ q ∈ lw_privs_1, lw_okq q := List.forall_mem_cons.mpr ⟨lw_p0, List.forall_mem_cons.mpr ⟨lw_p1, List.forall_mem_cons.mpr ⟨lw_p2, List.forall_mem_cons.mpr ⟨lw_p3, List.forall_mem_cons.mpr ⟨lw_p4, List.forall_mem_cons.mpr ⟨lw_p5, List.forall_mem_cons.mpr ⟨lw_p6, List.forall_mem_cons.mpr ⟨lw_p7, List.forall_mem_cons.mpr ⟨lw_p8, List.forall_mem_cons.mpr ⟨lw_p9, List.forall_mem_cons.mpr ⟨lw_p10, List.forall_mem_cons.mpr ⟨lw_p11, List.forall_mem_cons.mpr ⟨lw_p12, List.forall_mem_cons.mpr ⟨lw_p13, List.forall_mem_cons.mpr ⟨lw_p14, List.forall_mem_cons.mpr ⟨lw_p15, fun _ h => absurd h List.not_mem_nil⟩⟩⟩⟩⟩⟩⟩⟩⟩⟩⟩⟩⟩⟩⟩⟩
theorem lw_p16 : lw_okq (⟨"ManyGoods$FairRates", "openUsers", "(LManyGoods$Net;LManyGoods$WayTable;I)I"⟩, 6) := ⟨⟨by decide +kernel, by decide +kernel⟩, List.mem_of_getElem? (i := 217) (by decide +kernel), List.mem_of_getElem? (i := 524) (by decide +kernel), List.mem_of_getElem? (i := 525) (by decide +kernel)⟩
theorem lw_p17 : lw_okq (⟨"ManyGoods$FairRates", "setShare", "(LManyGoods$Net;LManyGoods$WayTable;II)V"⟩, 6) := ⟨⟨by decide +kernel, by decide +kernel⟩, List.mem_of_getElem? (i := 217) (by decide +kernel), List.mem_of_getElem? (i := 532) (by decide +kernel), List.mem_of_getElem? (i := 533) (by decide +kernel)⟩
theorem lw_p18 : lw_okq (⟨"ManyGoods$FairRates", "closeAlong", "(LManyGoods$Net;LManyGoods$WayTable;I)V"⟩, 6) := ⟨⟨by decide +kernel, by decide +kernel⟩, List.mem_of_getElem? (i := 217) (by decide +kernel), List.mem_of_getElem? (i := 552) (by decide +kernel), List.mem_of_getElem? (i := 553) (by decide +kernel)⟩
theorem lw_p19 : lw_okq (⟨"ManyGoods$Flow", "reaches", "(LManyGoods$Net;II)Z"⟩, 3) := ⟨⟨by decide +kernel, by decide +kernel⟩, List.mem_of_getElem? (i := 263) (by decide +kernel), List.mem_of_getElem? (i := 568) (by decide +kernel), List.mem_of_getElem? (i := 569) (by decide +kernel)⟩
theorem lw_p20 : lw_okq (⟨"ManyGoods$Flow", "push", "(LManyGoods$Net;I)I"⟩, 3) := ⟨⟨by decide +kernel, by decide +kernel⟩, List.mem_of_getElem? (i := 263) (by decide +kernel), List.mem_of_getElem? (i := 575) (by decide +kernel), List.mem_of_getElem? (i := 576) (by decide +kernel)⟩
theorem lw_p21 : lw_okq (⟨"ManyGoods$Net", "demandOutOf", "(I)I"⟩, 13) := ⟨⟨by decide +kernel, by decide +kernel⟩, List.mem_of_getElem? (i := 22) (by decide +kernel), List.mem_of_getElem? (i := 588) (by decide +kernel), List.mem_of_getElem? (i := 589) (by decide +kernel)⟩
theorem lw_p22 : lw_okq (⟨"ManyGoodsModel", "noNode", "(I)Z"⟩, 26) := ⟨⟨by decide +kernel, by decide +kernel⟩, List.mem_of_getElem? (i := 602) (by decide +kernel), List.mem_of_getElem? (i := 696) (by decide +kernel), List.mem_of_getElem? (i := 697) (by decide +kernel)⟩
theorem lw_p23 : lw_okq (⟨"ManyGoodsModel", "layWays", "()V"⟩, 26) := ⟨⟨by decide +kernel, by decide +kernel⟩, List.mem_of_getElem? (i := 602) (by decide +kernel), List.mem_of_getElem? (i := 703) (by decide +kernel), List.mem_of_getElem? (i := 704) (by decide +kernel)⟩
theorem lw_p24 : lw_okq (⟨"ManyGoodsModel", "keep", "(III)V"⟩, 26) := ⟨⟨by decide +kernel, by decide +kernel⟩, List.mem_of_getElem? (i := 602) (by decide +kernel), List.mem_of_getElem? (i := 710) (by decide +kernel), List.mem_of_getElem? (i := 711) (by decide +kernel)⟩
theorem lw_p25 : lw_okq (⟨"ManyGoodsModel", "isAhead", "(III)Z"⟩, 26) := ⟨⟨by decide +kernel, by decide +kernel⟩, List.mem_of_getElem? (i := 602) (by decide +kernel), List.mem_of_getElem? (i := 714) (by decide +kernel), List.mem_of_getElem? (i := 715) (by decide +kernel)⟩
theorem lw_p26 : lw_okq (⟨"ManyGoodsModel", "noArc", "(I)Z"⟩, 26) := ⟨⟨by decide +kernel, by decide +kernel⟩, List.mem_of_getElem? (i := 602) (by decide +kernel), List.mem_of_getElem? (i := 722) (by decide +kernel), List.mem_of_getElem? (i := 723) (by decide +kernel)⟩
theorem lw_p27 : lw_okq (⟨"ManyGoodsModel", "noGood", "(I)Z"⟩, 26) := ⟨⟨by decide +kernel, by decide +kernel⟩, List.mem_of_getElem? (i := 602) (by decide +kernel), List.mem_of_getElem? (i := 738) (by decide +kernel), List.mem_of_getElem? (i := 739) (by decide +kernel)⟩
theorem lw_p28 : lw_okq (⟨"ManyGoodsModel", "findBest", "()V"⟩, 26) := ⟨⟨by decide +kernel, by decide +kernel⟩, List.mem_of_getElem? (i := 602) (by decide +kernel), List.mem_of_getElem? (i := 758) (by decide +kernel), List.mem_of_getElem? (i := 759) (by decide +kernel)⟩
theorem lw_p29 : lw_okq (⟨"ManyGoodsModel", "fits", "(II)Z"⟩, 26) := ⟨⟨by decide +kernel, by decide +kernel⟩, List.mem_of_getElem? (i := 602) (by decide +kernel), List.mem_of_getElem? (i := 765) (by decide +kernel), List.mem_of_getElem? (i := 766) (by decide +kernel)⟩
theorem lw_p30 : lw_okq (⟨"ManyGoodsModel", "load", "(III)V"⟩, 26) := ⟨⟨by decide +kernel, by decide +kernel⟩, List.mem_of_getElem? (i := 602) (by decide +kernel), List.mem_of_getElem? (i := 769) (by decide +kernel), List.mem_of_getElem? (i := 770) (by decide +kernel)⟩
theorem lw_p31 : lw_okq (⟨"ManyGoodsModel", "loadOf", "([II)I"⟩, 26) := ⟨⟨by decide +kernel, by decide +kernel⟩, List.mem_of_getElem? (i := 602) (by decide +kernel), List.mem_of_getElem? (i := 785) (by decide +kernel), List.mem_of_getElem? (i := 786) (by decide +kernel)⟩
def lw_privs_2 : List (MethodName × Nat) := [(⟨"ManyGoods$FairRates", "openUsers", "(LManyGoods$Net;LManyGoods$WayTable;I)I"⟩, 6), (⟨"ManyGoods$FairRates", "setShare", "(LManyGoods$Net;LManyGoods$WayTable;II)V"⟩, 6), (⟨"ManyGoods$FairRates", "closeAlong", "(LManyGoods$Net;LManyGoods$WayTable;I)V"⟩, 6), (⟨"ManyGoods$Flow", "reaches", "(LManyGoods$Net;II)Z"⟩, 3), (⟨"ManyGoods$Flow", "push", "(LManyGoods$Net;I)I"⟩, 3), (⟨"ManyGoods$Net", "demandOutOf", "(I)I"⟩, 13), (⟨"ManyGoodsModel", "noNode", "(I)Z"⟩, 26), (⟨"ManyGoodsModel", "layWays", "()V"⟩, 26), (⟨"ManyGoodsModel", "keep", "(III)V"⟩, 26), (⟨"ManyGoodsModel", "isAhead", "(III)Z"⟩, 26), (⟨"ManyGoodsModel", "noArc", "(I)Z"⟩, 26), (⟨"ManyGoodsModel", "noGood", "(I)Z"⟩, 26), (⟨"ManyGoodsModel", "findBest", "()V"⟩, 26), (⟨"ManyGoodsModel", "fits", "(II)Z"⟩, 26), (⟨"ManyGoodsModel", "load", "(III)V"⟩, 26), (⟨"ManyGoodsModel", "loadOf", "([II)I"⟩, 26)]
theorem lw_r2 : ∀ q ∈ lw_privs_2, lw_okq q := List.forall_mem_cons.mpr ⟨lw_p16, List.forall_mem_cons.mpr ⟨lw_p17, List.forall_mem_cons.mpr ⟨lw_p18, List.forall_mem_cons.mpr ⟨lw_p19, List.forall_mem_cons.mpr ⟨lw_p20, List.forall_mem_cons.mpr ⟨lw_p21, List.forall_mem_cons.mpr ⟨lw_p22, List.forall_mem_cons.mpr ⟨lw_p23, List.forall_mem_cons.mpr ⟨lw_p24, List.forall_mem_cons.mpr ⟨lw_p25, List.forall_mem_cons.mpr ⟨lw_p26, List.forall_mem_cons.mpr ⟨lw_p27, List.forall_mem_cons.mpr ⟨lw_p28, List.forall_mem_cons.mpr ⟨lw_p29, List.forall_mem_cons.mpr ⟨lw_p30, List.forall_mem_cons.mpr ⟨lw_p31, fun _ h => absurd h List.not_mem_nil⟩⟩⟩⟩⟩⟩⟩⟩⟩⟩⟩⟩⟩⟩⟩⟩
theorem lw_p32 : lw_okq (⟨"ManyGoodsModel", "hasArc", "(III)Z"⟩, 26) := ⟨⟨by decide +kernel, by decide +kernel⟩, List.mem_of_getElem? (i := 602) (by decide +kernel), List.mem_of_getElem? (i := 789) (by decide +kernel), List.mem_of_getElem? (i := 790) (by decide +kernel)⟩
theorem lw_p33 : lw_okq (⟨"ManyGoodsModel", "findRates", "()V"⟩, 26) := ⟨⟨by decide +kernel, by decide +kernel⟩, List.mem_of_getElem? (i := 602) (by decide +kernel), List.mem_of_getElem? (i := 809) (by decide +kernel), List.mem_of_getElem? (i := 810) (by decide +kernel)⟩
def lw_privs_3 : List (MethodName × Nat) := [(⟨"ManyGoodsModel", "hasArc", "(III)Z"⟩, 26), (⟨"ManyGoodsModel", "findRates", "()V"⟩, 26)]
theorem lw_r3 : ∀ q ∈ lw_privs_3, lw_okq q := List.forall_mem_cons.mpr ⟨lw_p32, List.forall_mem_cons.mpr ⟨lw_p33, fun _ h => absurd h List.not_mem_nil⟩⟩
def lw_privs : List (MethodName × Nat) := lw_privs_1 ++ (lw_privs_2 ++ (lw_privs_3))
def lw_tbl : List Cond := k2_sels lw_privs ++ tables_1
theorem lw_privs_ok : ∀ q ∈ lw_privs, lw_okq q := by
  show ∀ q ∈ lw_privs_1 ++ (lw_privs_2 ++ (lw_privs_3)), lw_okq q
  exact List.forall_mem_append.mpr ⟨lw_r1, List.forall_mem_append.mpr ⟨lw_r2, lw_r3⟩⟩

/-- a method: its class number, name, code, locals, return type -/
abbrev xT : Type := Nat × MethodName × ByteArray × Nat × Option FieldType
def RX0 : String := "ManyGoods$FairRates"
def TX0 : u_T := fun k => match k with
  | 0 => ("ManyGoods$FairRates", "shares", "[LManyGoods$Fraction;", true)
  | 1 => ("ManyGoods$FairRates", "bottlenecks", "[I", true)
  | 2 => ("ManyGoods$FairRates", "open", "[Z", true)
  | 3 => ("ManyGoods$FairRates", "share", "LManyGoods$Fraction;", true)
  | 4 => ("ManyGoods$FairRates", "tightest", "LManyGoods$Fraction;", true)
  | _ => ("ManyGoods$FairRates", "version", "I", false)
def tyX0 : Nat → FieldType := fun k => match k with
  | 0 => .array (.object "ManyGoods$Fraction")
  | 1 => .array .int
  | 2 => .array .boolean
  | 3 => .object "ManyGoods$Fraction"
  | 4 => .object "ManyGoods$Fraction"
  | _ => .int
abbrev wsX00 : List Cond := u_ws RX0 TX0 6
theorem nmX0 : ∀ a, a < 6 → ∀ b, b < 6 → a ≠ b → (TX0 a).2.1 ≠ (TX0 b).2.1 := by decide +kernel
theorem tyX0_ok : ∀ k, k < 6 → parseFieldDescriptor (TX0 k).2.2.1 = some (tyX0 k) := by decide +kernel
def RX1 : String := "ManyGoods$Flow"
def TX1 : u_T := fun k => match k with
  | 0 => ("ManyGoods$Flow", "left", "[I", true)
  | 1 => ("ManyGoods$Flow", "cameBy", "[I", true)
  | _ => ("ManyGoods$Flow", "queue", "[I", true)
def tyX1 : Nat → FieldType := fun k => match k with
  | 0 => .array .int
  | 1 => .array .int
  | _ => .array .int
abbrev wsX10 : List Cond := u_ws RX1 TX1 3
theorem nmX1 : ∀ a, a < 3 → ∀ b, b < 3 → a ≠ b → (TX1 a).2.1 ≠ (TX1 b).2.1 := by decide +kernel
theorem tyX1_ok : ∀ k, k < 3 → parseFieldDescriptor (TX1 k).2.2.1 = some (tyX1 k) := by decide +kernel
def RX2 : String := "ManyGoods$Fraction"
def TX2 : u_T := fun k => match k with
  | 0 => ("ManyGoods$Fraction", "above", "J", false)
  | _ => ("ManyGoods$Fraction", "below", "J", false)
def tyX2 : Nat → FieldType := fun k => match k with
  | 0 => .long
  | _ => .long
abbrev wsX20 : List Cond := u_ws RX2 TX2 2
theorem nmX2 : ∀ a, a < 2 → ∀ b, b < 2 → a ≠ b → (TX2 a).2.1 ≠ (TX2 b).2.1 := by decide +kernel
theorem tyX2_ok : ∀ k, k < 2 → parseFieldDescriptor (TX2 k).2.2.1 = some (tyX2 k) := by decide +kernel
def RX3 : String := "ManyGoods$Loads"
def TX3 : u_T := fun k => match k with
  | _ => ("ManyGoods$Loads", "amounts", "[I", true)
def tyX3 : Nat → FieldType := fun k => match k with
  | _ => .array .int
abbrev wsX30 : List Cond := u_ws RX3 TX3 1
theorem nmX3 : ∀ a, a < 1 → ∀ b, b < 1 → a ≠ b → (TX3 a).2.1 ≠ (TX3 b).2.1 := by decide +kernel
theorem tyX3_ok : ∀ k, k < 1 → parseFieldDescriptor (TX3 k).2.2.1 = some (tyX3 k) := by decide +kernel
def RX4 : String := "ManyGoods$Net"
def TX4 : u_T := fun k => match k with
  | 0 => ("ManyGoods$Net", "nodes", "I", false)
  | 1 => ("ManyGoods$Net", "arcs", "I", false)
  | 2 => ("ManyGoods$Net", "goods", "I", false)
  | 3 => ("ManyGoods$Net", "version", "I", false)
  | 4 => ("ManyGoods$Net", "wayVersion", "I", false)
  | 5 => ("ManyGoods$Net", "tails", "[I", true)
  | 6 => ("ManyGoods$Net", "heads", "[I", true)
  | 7 => ("ManyGoods$Net", "capacities", "[I", true)
  | 8 => ("ManyGoods$Net", "costs", "[I", true)
  | 9 => ("ManyGoods$Net", "origins", "[I", true)
  | 10 => ("ManyGoods$Net", "goals", "[I", true)
  | 11 => ("ManyGoods$Net", "demands", "[I", true)
  | _ => ("ManyGoods$Net", "worths", "[I", true)
def tyX4 : Nat → FieldType := fun k => match k with
  | 0 => .int
  | 1 => .int
  | 2 => .int
  | 3 => .int
  | 4 => .int
  | 5 => .array .int
  | 6 => .array .int
  | 7 => .array .int
  | 8 => .array .int
  | 9 => .array .int
  | 10 => .array .int
  | 11 => .array .int
  | _ => .array .int
abbrev wsX40 : List Cond := u_ws RX4 TX4 13
theorem nmX4 : ∀ a, a < 13 → ∀ b, b < 13 → a ≠ b → (TX4 a).2.1 ≠ (TX4 b).2.1 := by decide +kernel
theorem tyX4_ok : ∀ k, k < 13 → parseFieldDescriptor (TX4 k).2.2.1 = some (tyX4 k) := by decide +kernel
def RX5 : String := "ManyGoods$Planner"
def TX5 : u_T := fun k => match k with
  | 0 => ("ManyGoods$Planner", "kept", "[I", true)
  | 1 => ("ManyGoods$Planner", "keptWorth", "I", false)
  | 2 => ("ManyGoods$Planner", "keptCost", "I", false)
  | 3 => ("ManyGoods$Planner", "chosen", "[I", true)
  | 4 => ("ManyGoods$Planner", "limits", "[I", true)
  | 5 => ("ManyGoods$Planner", "hopes", "[I", true)
  | _ => ("ManyGoods$Planner", "loads", "LManyGoods$Loads;", true)
def tyX5 : Nat → FieldType := fun k => match k with
  | 0 => .array .int
  | 1 => .int
  | 2 => .int
  | 3 => .array .int
  | 4 => .array .int
  | 5 => .array .int
  | _ => .object "ManyGoods$Loads"
abbrev wsX50 : List Cond := u_ws RX5 TX5 7
theorem nmX5 : ∀ a, a < 7 → ∀ b, b < 7 → a ≠ b → (TX5 a).2.1 ≠ (TX5 b).2.1 := by decide +kernel
theorem tyX5_ok : ∀ k, k < 7 → parseFieldDescriptor (TX5 k).2.2.1 = some (tyX5 k) := by decide +kernel
def RX6 : String := "ManyGoods$Way"
def TX6 : u_T := fun k => match k with
  | 0 => ("ManyGoods$Way", "length", "I", false)
  | 1 => ("ManyGoods$Way", "cost", "I", false)
  | _ => ("ManyGoods$Way", "arcs", "[I", true)
def tyX6 : Nat → FieldType := fun k => match k with
  | 0 => .int
  | 1 => .int
  | _ => .array .int
abbrev wsX60 : List Cond := u_ws RX6 TX6 3
theorem nmX6 : ∀ a, a < 3 → ∀ b, b < 3 → a ≠ b → (TX6 a).2.1 ≠ (TX6 b).2.1 := by decide +kernel
theorem tyX6_ok : ∀ k, k < 3 → parseFieldDescriptor (TX6 k).2.2.1 = some (tyX6 k) := by decide +kernel
def RX7 : String := "ManyGoods$WayList"
def TX7 : u_T := fun k => match k with
  | 0 => ("ManyGoods$WayList", "size", "I", false)
  | _ => ("ManyGoods$WayList", "items", "[LManyGoods$Way;", true)
def tyX7 : Nat → FieldType := fun k => match k with
  | 0 => .int
  | _ => .array (.object "ManyGoods$Way")
abbrev wsX70 : List Cond := u_ws RX7 TX7 2
theorem nmX7 : ∀ a, a < 2 → ∀ b, b < 2 → a ≠ b → (TX7 a).2.1 ≠ (TX7 b).2.1 := by decide +kernel
theorem tyX7_ok : ∀ k, k < 2 → parseFieldDescriptor (TX7 k).2.2.1 = some (tyX7 k) := by decide +kernel
def RX8 : String := "ManyGoods$WayTable"
def TX8 : u_T := fun k => match k with
  | 0 => ("ManyGoods$WayTable", "lists", "[LManyGoods$WayList;", true)
  | 1 => ("ManyGoods$WayTable", "trail", "[I", true)
  | 2 => ("ManyGoods$WayTable", "least", "[I", true)
  | _ => ("ManyGoods$WayTable", "wayVersion", "I", false)
def tyX8 : Nat → FieldType := fun k => match k with
  | 0 => .array (.object "ManyGoods$WayList")
  | 1 => .array .int
  | 2 => .array .int
  | _ => .int
abbrev wsX80 : List Cond := u_ws RX8 TX8 4
theorem nmX8 : ∀ a, a < 4 → ∀ b, b < 4 → a ≠ b → (TX8 a).2.1 ≠ (TX8 b).2.1 := by decide +kernel
theorem tyX8_ok : ∀ k, k < 4 → parseFieldDescriptor (TX8 k).2.2.1 = some (tyX8 k) := by decide +kernel
def RX9 : String := "ManyGoods"
def TX9 : u_T := fun k => match k with
  | 0 => ("ManyGoods", "net", "LManyGoods$Net;", true)
  | 1 => ("ManyGoods", "table", "LManyGoods$WayTable;", true)
  | 2 => ("ManyGoods", "planner", "LManyGoods$Planner;", true)
  | 3 => ("ManyGoods", "probe", "LManyGoods$Planner;", true)
  | 4 => ("ManyGoods", "planLoads", "LManyGoods$Loads;", true)
  | 5 => ("ManyGoods", "triedLoads", "LManyGoods$Loads;", true)
  | 6 => ("ManyGoods", "tried", "[I", true)
  | 7 => ("ManyGoods", "rates", "LManyGoods$FairRates;", true)
  | 8 => ("ManyGoods", "flow", "LManyGoods$Flow;", true)
  | _ => ("ManyGoods", "planVersion", "I", false)
def tyX9 : Nat → FieldType := fun k => match k with
  | 0 => .object "ManyGoods$Net"
  | 1 => .object "ManyGoods$WayTable"
  | 2 => .object "ManyGoods$Planner"
  | 3 => .object "ManyGoods$Planner"
  | 4 => .object "ManyGoods$Loads"
  | 5 => .object "ManyGoods$Loads"
  | 6 => .array .int
  | 7 => .object "ManyGoods$FairRates"
  | 8 => .object "ManyGoods$Flow"
  | _ => .int
abbrev wsX90 : List Cond := u_ws RX9 TX9 10
theorem nmX9 : ∀ a, a < 10 → ∀ b, b < 10 → a ≠ b → (TX9 a).2.1 ≠ (TX9 b).2.1 := by decide +kernel
theorem tyX9_ok : ∀ k, k < 10 → parseFieldDescriptor (TX9 k).2.2.1 = some (tyX9 k) := by decide +kernel
def RX10 : String := "ManyGoodsModel"
def TX10 : u_T := fun k => match k with
  | 0 => ("ManyGoodsModel", "thrown", "I", false)
  | 1 => ("ManyGoodsModel", "nodes", "I", false)
  | 2 => ("ManyGoodsModel", "arcs", "I", false)
  | 3 => ("ManyGoodsModel", "arcFrom", "[I", true)
  | 4 => ("ManyGoodsModel", "arcTo", "[I", true)
  | 5 => ("ManyGoodsModel", "room", "[I", true)
  | 6 => ("ManyGoodsModel", "cost", "[I", true)
  | 7 => ("ManyGoodsModel", "goods", "I", false)
  | 8 => ("ManyGoodsModel", "from", "[I", true)
  | 9 => ("ManyGoodsModel", "to", "[I", true)
  | 10 => ("ManyGoodsModel", "demand", "[I", true)
  | 11 => ("ManyGoodsModel", "worth", "[I", true)
  | 12 => ("ManyGoodsModel", "tried", "[I", true)
  | 13 => ("ManyGoodsModel", "many", "[I", true)
  | 14 => ("ManyGoodsModel", "wayArcs", "[I", true)
  | 15 => ("ManyGoodsModel", "wayLength", "[I", true)
  | 16 => ("ManyGoodsModel", "wayCost", "[I", true)
  | 17 => ("ManyGoodsModel", "path", "[I", true)
  | 18 => ("ManyGoodsModel", "chosen", "[I", true)
  | 19 => ("ManyGoodsModel", "best", "[I", true)
  | 20 => ("ManyGoodsModel", "bestWorth", "I", false)
  | 21 => ("ManyGoodsModel", "bestSpent", "I", false)
  | 22 => ("ManyGoodsModel", "left", "[I", true)
  | 23 => ("ManyGoodsModel", "above", "[J", true)
  | 24 => ("ManyGoodsModel", "below", "[J", true)
  | _ => ("ManyGoodsModel", "neck", "[I", true)
def tyX10 : Nat → FieldType := fun k => match k with
  | 0 => .int
  | 1 => .int
  | 2 => .int
  | 3 => .array .int
  | 4 => .array .int
  | 5 => .array .int
  | 6 => .array .int
  | 7 => .int
  | 8 => .array .int
  | 9 => .array .int
  | 10 => .array .int
  | 11 => .array .int
  | 12 => .array .int
  | 13 => .array .int
  | 14 => .array .int
  | 15 => .array .int
  | 16 => .array .int
  | 17 => .array .int
  | 18 => .array .int
  | 19 => .array .int
  | 20 => .int
  | 21 => .int
  | 22 => .array .int
  | 23 => .array .long
  | 24 => .array .long
  | _ => .array .int
abbrev wsX100 : List Cond := u_ws RX10 TX10 26
theorem nmX10 : ∀ a, a < 26 → ∀ b, b < 26 → a ≠ b → (TX10 a).2.1 ≠ (TX10 b).2.1 := by decide +kernel
theorem tyX10_ok : ∀ k, k < 26 → parseFieldDescriptor (TX10 k).2.2.1 = some (tyX10 k) := by decide +kernel
abbrev vwCl : List vw_C := [(RX0, TX0, 6), (RX1, TX1, 3), (RX2, TX2, 2), (RX3, TX3, 1), (RX4, TX4, 13), (RX5, TX5, 7), (RX6, TX6, 3), (RX7, TX7, 2), (RX8, TX8, 4), (RX9, TX9, 10), (RX10, TX10, 26)]
def tX0_init : xT := (0, ⟨RX0, "<init>", "()V"⟩, prog_2_method_1_code, 2, none)
def tX0_refresh : xT := (0, ⟨RX0, "refresh", "(LManyGoods$Net;LManyGoods$WayTable;)V"⟩, prog_2_method_2_code, 5, none)
def tX0_findTightest : xT := (0, ⟨RX0, "findTightest", "(LManyGoods$Net;LManyGoods$WayTable;)I"⟩, prog_2_method_3_code, 6, (some .int))
def tX0_openUsers : xT := (0, ⟨RX0, "openUsers", "(LManyGoods$Net;LManyGoods$WayTable;I)I"⟩, prog_2_method_4_code, 6, (some .int))
def tX0_setShare : xT := (0, ⟨RX0, "setShare", "(LManyGoods$Net;LManyGoods$WayTable;II)V"⟩, prog_2_method_5_code, 7, none)
def tX0_closeAlong : xT := (0, ⟨RX0, "closeAlong", "(LManyGoods$Net;LManyGoods$WayTable;I)V"⟩, prog_2_method_6_code, 5, none)
def tX1_init : xT := (1, ⟨RX1, "<init>", "()V"⟩, prog_3_method_1_code, 1, none)
def tX1_most : xT := (1, ⟨RX1, "most", "(LManyGoods$Net;LManyGoods$Loads;II)I"⟩, prog_3_method_2_code, 7, (some .int))
def tX1_reaches : xT := (1, ⟨RX1, "reaches", "(LManyGoods$Net;II)Z"⟩, prog_3_method_3_code, 9, (some .boolean))
def tX1_push : xT := (1, ⟨RX1, "push", "(LManyGoods$Net;I)I"⟩, prog_3_method_4_code, 6, (some .int))
def tX1_startOf : xT := (1, ⟨RX1, "startOf", "(LManyGoods$Net;I)I"⟩, prog_3_method_5_code, 2, (some .int))
def tX2_init : xT := (2, ⟨RX2, "<init>", "()V"⟩, prog_4_method_1_code, 1, none)
def tX2_set : xT := (2, ⟨RX2, "set", "(JJ)V"⟩, prog_4_method_2_code, 7, none)
def tX2_subtract : xT := (2, ⟨RX2, "subtract", "(LManyGoods$Fraction;)V"⟩, prog_4_method_3_code, 2, none)
def tX2_isLessThan : xT := (2, ⟨RX2, "isLessThan", "(LManyGoods$Fraction;)Z"⟩, prog_4_method_4_code, 2, (some .boolean))
def tX2_commonFactor : xT := (2, ⟨RX2, "commonFactor", "(JJ)J"⟩, prog_4_method_5_code, 11, (some .long))
def tX3_init : xT := (3, ⟨RX3, "<init>", "()V"⟩, prog_5_method_1_code, 1, none)
def tX3_clear : xT := (3, ⟨RX3, "clear", "()V"⟩, prog_5_method_2_code, 2, none)
def tX3_add : xT := (3, ⟨RX3, "add", "(LManyGoods$Way;I)V"⟩, prog_5_method_3_code, 4, none)
def tX3_addAll : xT := (3, ⟨RX3, "addAll", "(LManyGoods$Net;LManyGoods$WayTable;[I)V"⟩, prog_5_method_4_code, 6, none)
def tX3_leavesRoomFor : xT := (3, ⟨RX3, "leavesRoomFor", "(LManyGoods$Way;I[I)Z"⟩, prog_5_method_5_code, 6, (some .boolean))
def tX3_firstAbove : xT := (3, ⟨RX3, "firstAbove", "([II)I"⟩, prog_5_method_6_code, 4, (some .int))
def tX4_init : xT := (4, ⟨RX4, "<init>", "()V"⟩, prog_6_method_1_code, 1, none)
def tX4_areTwoNodes : xT := (4, ⟨RX4, "areTwoNodes", "(II)Z"⟩, prog_6_method_2_code, 3, (some .boolean))
def tX4_isArc : xT := (4, ⟨RX4, "isArc", "(I)Z"⟩, prog_6_method_3_code, 2, (some .boolean))
def tX4_isGood : xT := (4, ⟨RX4, "isGood", "(I)Z"⟩, prog_6_method_4_code, 2, (some .boolean))
def tX4_addArc : xT := (4, ⟨RX4, "addArc", "(IIII)I"⟩, prog_6_method_5_code, 5, (some .int))
def tX4_addGood : xT := (4, ⟨RX4, "addGood", "(IIII)I"⟩, prog_6_method_6_code, 5, (some .int))
def tX4_isCut : xT := (4, ⟨RX4, "isCut", "(I)Z"⟩, prog_6_method_7_code, 4, (some .boolean))
def tX4_demandOutOf : xT := (4, ⟨RX4, "demandOutOf", "(I)I"⟩, prog_6_method_8_code, 4, (some .int))
def tX4_leadsOut : xT := (4, ⟨RX4, "leadsOut", "(III)Z"⟩, prog_6_method_9_code, 3, (some .boolean))
def tX5_init : xT := (5, ⟨RX5, "<init>", "()V"⟩, prog_7_method_1_code, 1, none)
def tX5_findBest : xT := (5, ⟨RX5, "findBest", "(LManyGoods$Net;LManyGoods$WayTable;)V"⟩, prog_7_method_2_code, 3, none)
def tX5_mostWorthWithWider : xT := (5, ⟨RX5, "mostWorthWithWider", "(LManyGoods$Net;LManyGoods$WayTable;III)I"⟩, prog_7_method_3_code, 6, (some .int))
def tX5_prepare : xT := (5, ⟨RX5, "prepare", "(LManyGoods$Net;LManyGoods$WayTable;)V"⟩, prog_7_method_4_code, 4, none)
def tX5_choose : xT := (5, ⟨RX5, "choose", "(LManyGoods$Net;LManyGoods$WayTable;III)V"⟩, prog_7_method_5_code, 8, none)
def tX5_serve : xT := (5, ⟨RX5, "serve", "(LManyGoods$Net;LManyGoods$WayTable;IIII)V"⟩, prog_7_method_6_code, 9, none)
def tX5_leaveOut : xT := (5, ⟨RX5, "leaveOut", "(LManyGoods$Net;LManyGoods$WayTable;III)V"⟩, prog_7_method_7_code, 6, none)
def tX5_mayBeBetter : xT := (5, ⟨RX5, "mayBeBetter", "(II)Z"⟩, prog_7_method_8_code, 3, (some .boolean))
def tX5_keep : xT := (5, ⟨RX5, "keep", "(III)V"⟩, prog_7_method_9_code, 5, none)
def tX6_init : xT := (6, ⟨RX6, "<init>", "()V"⟩, prog_8_method_1_code, 1, none)
def tX6_copyFrom : xT := (6, ⟨RX6, "copyFrom", "([III)V"⟩, prog_8_method_2_code, 5, none)
def tX6_uses : xT := (6, ⟨RX6, "uses", "(I)Z"⟩, prog_8_method_3_code, 3, (some .boolean))
def tX7_init : xT := (7, ⟨RX7, "<init>", "()V"⟩, prog_9_method_1_code, 2, none)
def tX7_has : xT := (7, ⟨RX7, "has", "(I)Z"⟩, prog_9_method_2_code, 2, (some .boolean))
def tX7_hasPlaceFor : xT := (7, ⟨RX7, "hasPlaceFor", "(I)Z"⟩, prog_9_method_3_code, 2, (some .boolean))
def tX7_insert : xT := (7, ⟨RX7, "insert", "([III)V"⟩, prog_9_method_4_code, 6, none)
def tX8_init : xT := (8, ⟨RX8, "<init>", "()V"⟩, prog_10_method_1_code, 2, none)
def tX8_refresh : xT := (8, ⟨RX8, "refresh", "(LManyGoods$Net;)V"⟩, prog_10_method_2_code, 3, none)
def tX8_measure : xT := (8, ⟨RX8, "measure", "(LManyGoods$Net;I)V"⟩, prog_10_method_3_code, 7, none)
def tX8_walk : xT := (8, ⟨RX8, "walk", "(LManyGoods$Net;IIIII)V"⟩, prog_10_method_4_code, 9, none)
def tX8_follow : xT := (8, ⟨RX8, "follow", "(LManyGoods$Net;IIIII)V"⟩, prog_10_method_5_code, 8, none)
def tX8_isWorthwhile : xT := (8, ⟨RX8, "isWorthwhile", "(III)Z"⟩, prog_10_method_6_code, 4, (some .boolean))
def tX9_init : xT := (9, ⟨RX9, "<init>", "()V"⟩, prog_1_method_1_code, 2, none)
def tX9_node : xT := (9, ⟨RX9, "node", "()I"⟩, prog_1_method_2_code, 1, (some .int))
def tX9_arc : xT := (9, ⟨RX9, "arc", "(IIII)I"⟩, prog_1_method_3_code, 5, (some .int))
def tX9_capacity : xT := (9, ⟨RX9, "capacity", "(II)I"⟩, prog_1_method_4_code, 4, (some .int))
def tX9_cost : xT := (9, ⟨RX9, "cost", "(II)I"⟩, prog_1_method_5_code, 4, (some .int))
def tX9_good : xT := (9, ⟨RX9, "good", "(IIII)I"⟩, prog_1_method_6_code, 5, (some .int))
def tX9_demand : xT := (9, ⟨RX9, "demand", "(II)I"⟩, prog_1_method_7_code, 4, (some .int))
def tX9_worth : xT := (9, ⟨RX9, "worth", "(II)I"⟩, prog_1_method_8_code, 4, (some .int))
def tX9_ways : xT := (9, ⟨RX9, "ways", "(I)I"⟩, prog_1_method_9_code, 2, (some .int))
def tX9_way : xT := (9, ⟨RX9, "way", "(III)I"⟩, prog_1_method_10_code, 6, (some .int))
def tX9_best : xT := (9, ⟨RX9, "best", "()I"⟩, prog_1_method_11_code, 1, (some .int))
def tX9_spent : xT := (9, ⟨RX9, "spent", "()I"⟩, prog_1_method_12_code, 1, (some .int))
def tX9_plan : xT := (9, ⟨RX9, "plan", "(I)I"⟩, prog_1_method_13_code, 2, (some .int))
def tX9_load : xT := (9, ⟨RX9, "load", "(I)I"⟩, prog_1_method_14_code, 2, (some .int))
def tX9_price : xT := (9, ⟨RX9, "price", "(II)I"⟩, prog_1_method_15_code, 3, (some .int))
def tX9_attempt : xT := (9, ⟨RX9, "attempt", "(II)I"⟩, prog_1_method_16_code, 4, (some .int))
def tX9_attempted : xT := (9, ⟨RX9, "attempted", "(I)I"⟩, prog_1_method_17_code, 2, (some .int))
def tX9_rate : xT := (9, ⟨RX9, "rate", "(II)I"⟩, prog_1_method_18_code, 4, (some .int))
def tX9_bottleneck : xT := (9, ⟨RX9, "bottleneck", "(I)I"⟩, prog_1_method_19_code, 2, (some .int))
def tX9_more : xT := (9, ⟨RX9, "more", "(I)I"⟩, prog_1_method_20_code, 2, (some .int))
def tX9_cut : xT := (9, ⟨RX9, "cut", "()I"⟩, prog_1_method_21_code, 3, (some .int))
def tX9_count : xT := (9, ⟨RX9, "count", "(I)I"⟩, prog_1_method_22_code, 2, (some .int))
def tX9_refreshPlan : xT := (9, ⟨RX9, "refreshPlan", "()V"⟩, prog_1_method_23_code, 1, none)
def tX9_refreshRates : xT := (9, ⟨RX9, "refreshRates", "()V"⟩, prog_1_method_24_code, 1, none)
def tX9_areTriedThere : xT := (9, ⟨RX9, "areTriedThere", "()Z"⟩, prog_1_method_25_code, 2, (some .boolean))
def tX9_triedWorth : xT := (9, ⟨RX9, "triedWorth", "()I"⟩, prog_1_method_26_code, 3, (some .int))
def tX9_triedCost : xT := (9, ⟨RX9, "triedCost", "()I"⟩, prog_1_method_27_code, 4, (some .int))
def tX9_isWithin : xT := (9, ⟨RX9, "isWithin", "(III)Z"⟩, prog_1_method_28_code, 3, (some .boolean))
def tX9_sumOfFirst : xT := (9, ⟨RX9, "sumOfFirst", "([II)I"⟩, prog_1_method_29_code, 4, (some .int))
def tX10_in : xT := (10, ⟨RX10, "in", "(III)Z"⟩, prog_12_method_2_code, 3, (some .boolean))
def tX10_init : xT := (10, ⟨RX10, "<init>", "()V"⟩, prog_12_method_3_code, 1, none)
def tX10_noNode : xT := (10, ⟨RX10, "noNode", "(I)Z"⟩, prog_12_method_4_code, 2, (some .boolean))
def tX10_noArc : xT := (10, ⟨RX10, "noArc", "(I)Z"⟩, prog_12_method_5_code, 2, (some .boolean))
def tX10_noGood : xT := (10, ⟨RX10, "noGood", "(I)Z"⟩, prog_12_method_6_code, 2, (some .boolean))
def tX10_node : xT := (10, ⟨RX10, "node", "()I"⟩, prog_12_method_7_code, 1, (some .int))
def tX10_arc : xT := (10, ⟨RX10, "arc", "(IIII)I"⟩, prog_12_method_8_code, 5, (some .int))
def tX10_capacity : xT := (10, ⟨RX10, "capacity", "(II)I"⟩, prog_12_method_9_code, 4, (some .int))
def tX10_cost : xT := (10, ⟨RX10, "cost", "(II)I"⟩, prog_12_method_10_code, 4, (some .int))
def tX10_good : xT := (10, ⟨RX10, "good", "(IIII)I"⟩, prog_12_method_11_code, 5, (some .int))
def tX10_demand : xT := (10, ⟨RX10, "demand", "(II)I"⟩, prog_12_method_12_code, 4, (some .int))
def tX10_worth : xT := (10, ⟨RX10, "worth", "(II)I"⟩, prog_12_method_13_code, 4, (some .int))
def tX10_layWays : xT := (10, ⟨RX10, "layWays", "()V"⟩, prog_12_method_14_code, 2, none)
def tX10_goOn : xT := (10, ⟨RX10, "goOn", "(LManyGoodsModel;IIIII)V"⟩, prog_12_method_15_code, 9, none)
def tX10_isAhead : xT := (10, ⟨RX10, "isAhead", "(III)Z"⟩, prog_12_method_16_code, 5, (some .boolean))
def tX10_keep : xT := (10, ⟨RX10, "keep", "(III)V"⟩, prog_12_method_17_code, 9, none)
def tX10_ways : xT := (10, ⟨RX10, "ways", "(I)I"⟩, prog_12_method_18_code, 2, (some .int))
def tX10_way : xT := (10, ⟨RX10, "way", "(III)I"⟩, prog_12_method_19_code, 5, (some .int))
def tX10_hasArc : xT := (10, ⟨RX10, "hasArc", "(III)Z"⟩, prog_12_method_20_code, 6, (some .boolean))
def tX10_load : xT := (10, ⟨RX10, "load", "(III)V"⟩, prog_12_method_21_code, 6, none)
def tX10_fits : xT := (10, ⟨RX10, "fits", "(II)Z"⟩, prog_12_method_22_code, 6, (some .boolean))
def tX10_plans : xT := (10, ⟨RX10, "plans", "(LManyGoodsModel;III)V"⟩, prog_12_method_23_code, 5, none)
def tX10_findBest : xT := (10, ⟨RX10, "findBest", "()V"⟩, prog_12_method_24_code, 2, none)
def tX10_best : xT := (10, ⟨RX10, "best", "()I"⟩, prog_12_method_25_code, 1, (some .int))
def tX10_spent : xT := (10, ⟨RX10, "spent", "()I"⟩, prog_12_method_26_code, 1, (some .int))
def tX10_plan : xT := (10, ⟨RX10, "plan", "(I)I"⟩, prog_12_method_27_code, 2, (some .int))
def tX10_loadOf : xT := (10, ⟨RX10, "loadOf", "([II)I"⟩, prog_12_method_28_code, 5, (some .int))
def tX10_load_ : xT := (10, ⟨RX10, "load", "(I)I"⟩, prog_12_method_29_code, 2, (some .int))
def tX10_price : xT := (10, ⟨RX10, "price", "(II)I"⟩, prog_12_method_30_code, 4, (some .int))
def tX10_attempt : xT := (10, ⟨RX10, "attempt", "(II)I"⟩, prog_12_method_31_code, 4, (some .int))
def tX10_attempted : xT := (10, ⟨RX10, "attempted", "(I)I"⟩, prog_12_method_32_code, 4, (some .int))
def tX10_common : xT := (10, ⟨RX10, "common", "(JJ)J"⟩, prog_12_method_33_code, 10, (some .long))
def tX10_findRates : xT := (10, ⟨RX10, "findRates", "()V"⟩, prog_12_method_34_code, 18, none)
def tX10_rate : xT := (10, ⟨RX10, "rate", "(II)I"⟩, prog_12_method_35_code, 3, (some .int))
def tX10_bottleneck : xT := (10, ⟨RX10, "bottleneck", "(I)I"⟩, prog_12_method_36_code, 2, (some .int))
def tX10_has : xT := (10, ⟨RX10, "has", "(II)Z"⟩, prog_12_method_37_code, 2, (some .boolean))
def tX10_more : xT := (10, ⟨RX10, "more", "(I)I"⟩, prog_12_method_38_code, 6, (some .int))
def tX10_cut : xT := (10, ⟨RX10, "cut", "()I"⟩, prog_12_method_39_code, 5, (some .int))
def tX10_count : xT := (10, ⟨RX10, "count", "(I)I"⟩, prog_12_method_40_code, 4, (some .int))
def tJ_min : xT := (12, ⟨"java/lang/Math", "min", "(II)I"⟩, prog_13_method_69_code, 2, (some .int))

def xnm (o : Nat) : String := match o with
  | 0 => RX0
  | 1 => RX1
  | 2 => RX2
  | 3 => RX3
  | 4 => RX4
  | 5 => RX5
  | 6 => RX6
  | 7 => RX7
  | 8 => RX8
  | 9 => RX9
  | 10 => RX10
  | 11 => "ManyGoodsLaw"
  | _ => "java/lang/Math"
def xtcs : List (List Nat) := [[2, 2, 2, 2, 2, 0], [2, 2, 2], [1, 1], [2], [0, 0, 0, 0, 0, 2, 2, 2, 2, 2, 2, 2, 2], [2, 0, 0, 2, 2, 2, 2], [0, 0, 2], [0, 2], [2, 2, 2, 0], [2, 2, 2, 2, 2, 2, 2, 2, 2, 0], [0, 0, 0, 2, 2, 2, 2, 0, 2, 2, 2, 2, 2, 2, 2, 2, 2, 2, 2, 2, 0, 0, 2, 2, 2, 2]]
def xfin (a b : Nat) : Bool := match vwCl[a]? with | some r => (r.2.1 b).2.2.2 | none => true
def xflt : List (Nat × Nat × Nat × Nat) := [(9, 65, 4, 0), (4, 36, 4, 0), (1, 21, 4, 1), (4, 44, 4, 1), (0, 62, 4, 1), (9, 79, 4, 1), (8, 52, 4, 1), (5, 49, 4, 1), (8, 32, 4, 2), (0, 40, 4, 2), (4, 47, 4, 2), (3, 27, 4, 2), (5, 57, 4, 2), (9, 99, 4, 2), (0, 37, 4, 3), (9, 68, 4, 3), (4, 50, 4, 3), (8, 29, 4, 4), (4, 53, 4, 4), (9, 96, 4, 4), (4, 9, 4, 5), (8, 61, 4, 5), (1, 52, 4, 5), (4, 15, 4, 6), (8, 58, 4, 6), (1, 55, 4, 6), (4, 18, 4, 7), (1, 27, 4, 7), (5, 54, 4, 7), (9, 90, 4, 7), (0, 98, 4, 7), (4, 21, 4, 8), (8, 55, 4, 8), (9, 93, 4, 8), (4, 24, 4, 9), (8, 45, 4, 9), (9, 201, 4, 9), (4, 27, 4, 10), (8, 38, 4, 10), (9, 204, 4, 10), (4, 30, 4, 11), (3, 48, 4, 11), (5, 86, 4, 11), (9, 108, 4, 11), (4, 33, 4, 12), (5, 71, 4, 12), (9, 111, 4, 12), (6, 15, 6, 0), (3, 15, 6, 0), (9, 134, 6, 0), (6, 19, 6, 1), (7, 22, 6, 1), (5, 104, 6, 1), (9, 139, 6, 1), (6, 9, 6, 2), (3, 21, 6, 2), (9, 142, 6, 2), (7, 18, 7, 0), (8, 35, 7, 0), (0, 49, 7, 0), (5, 66, 7, 0), (9, 122, 7, 0), (7, 11, 7, 1), (0, 88, 7, 1), (3, 44, 7, 1), (5, 82, 7, 1), (9, 130, 7, 1), (8, 11, 8, 0), (0, 43, 8, 0), (3, 32, 8, 0), (5, 60, 8, 0), (9, 118, 8, 0), (8, 17, 8, 1), (8, 21, 8, 2), (8, 24, 8, 3), (3, 9, 3, 0), (1, 30, 3, 0), (9, 156, 3, 0), (5, 9, 5, 0), (9, 153, 5, 0), (5, 35, 5, 1), (9, 147, 5, 1), (5, 39, 5, 2), (9, 150, 5, 2), (5, 15, 5, 3), (5, 18, 5, 4), (5, 21, 5, 5), (5, 27, 5, 6), (2, 17, 2, 0), (0, 77, 2, 0), (9, 192, 2, 0), (2, 7, 2, 1), (0, 81, 2, 1), (9, 198, 2, 1), (0, 11, 0, 0), (9, 188, 0, 0), (0, 17, 0, 1), (9, 185, 0, 1), (0, 21, 0, 2), (0, 26, 0, 3), (0, 30, 0, 4), (0, 33, 0, 5), (1, 9, 1, 0), (1, 15, 1, 1), (1, 18, 1, 2), (9, 12, 9, 0), (9, 19, 9, 1), (9, 26, 9, 2), (9, 30, 9, 3), (9, 36, 9, 4), (9, 40, 9, 5), (9, 43, 9, 6), (9, 50, 9, 7), (9, 57, 9, 8), (9, 61, 9, 9), (10, 1, 10, 0), (10, 75, 10, 1), (10, 82, 10, 2), (10, 13, 10, 3), (10, 17, 10, 4), (10, 20, 10, 5), (10, 23, 10, 6), (10, 85, 10, 7), (10, 26, 10, 8), (10, 29, 10, 9), (10, 32, 10, 10), (10, 35, 10, 11), (10, 38, 10, 12), (10, 41, 10, 13), (10, 44, 10, 14), (10, 47, 10, 15), (10, 50, 10, 16), (10, 53, 10, 17), (10, 56, 10, 18), (10, 59, 10, 19), (10, 112, 10, 20), (10, 115, 10, 21), (10, 62, 10, 22), (10, 65, 10, 23), (10, 69, 10, 24), (10, 72, 10, 25)]
def xnwt : List (Nat × Nat × Nat) := [(9, 9, 4), (9, 16, 8), (9, 23, 5), (9, 33, 3), (9, 47, 0), (9, 54, 1), (0, 9, 2), (5, 24, 3), (7, 9, 6), (8, 9, 7), (11, 7, 9), (11, 10, 10)]
def xant : List (Nat × Nat × Nat) := [(0, 9, 5), (7, 9, 3), (8, 9, 4)]
def xnest : List (String × Nat × MethodName × String) := [("ManyGoods", 11, ⟨"ManyGoods$Net", "<init>", "()V"⟩, "ManyGoods"), ("ManyGoods$WayList", 17, ⟨"ManyGoods$Way", "<init>", "()V"⟩, "ManyGoods"), ("ManyGoods", 25, ⟨"ManyGoods$Planner", "<init>", "()V"⟩, "ManyGoods"), ("ManyGoods$Planner", 26, ⟨"ManyGoods$Loads", "<init>", "()V"⟩, "ManyGoods"), ("ManyGoods", 35, ⟨"ManyGoods$Loads", "<init>", "()V"⟩, "ManyGoods"), ("ManyGoods$FairRates", 25, ⟨"ManyGoods$Fraction", "<init>", "()V"⟩, "ManyGoods"), ("ManyGoods", 56, ⟨"ManyGoods$Flow", "<init>", "()V"⟩, "ManyGoods"), ("ManyGoods$Net", 40, ⟨"ManyGoods", "isWithin", "(III)Z"⟩, "ManyGoods")]
