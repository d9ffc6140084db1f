section
-- ===== PART A: goes FIRST, ahead of the names: the tables' words, and 'selects' of the private methods out of them =====
/-- a private method of a class that the tables say can be made, by its rows of tables_1 -/
def lw_okq (q : MethodName × Nat) : Prop := (q.1.cls ≠ "java/lang/invoke/MethodHandle" ∧ q.1.cls ≠ "java/lang/invoke/VarHandle") ∧ Cond.instantiable q.1.cls q.2 ∈ tables_1 ∧ Cond.privateMethod q.1 ∈ tables_1 ∧ Cond.instanceMethod q.1 ∈ tables_1
theorem lw_p0 : lw_okq (⟨"ManyGoods$WayTable", "measure", "(LManyGoods$Net;I)V"⟩, 4) := ⟨⟨by decide +kernel, by decide +kernel⟩, List.mem_of_getElem? (i := 103) (by decide +kernel), List.mem_of_getElem? (i := 370) (by decide +kernel), List.mem_of_getElem? (i := 371) (by decide +kernel)⟩
theorem lw_p1 : lw_okq (⟨"ManyGoods$WayTable", "walk", "(LManyGoods$Net;IIIII)V"⟩, 4) := ⟨⟨by decide +kernel, by decide +kernel⟩, List.mem_of_getElem? (i := 103) (by decide +kernel), List.mem_of_getElem? (i := 374) (by decide +kernel), List.mem_of_getElem? (i := 375) (by decide +kernel)⟩
theorem lw_p2 : lw_okq (⟨"ManyGoods$WayTable", "isWorthwhile", "(III)Z"⟩, 4) := ⟨⟨by decide +kernel, by decide +kernel⟩, List.mem_of_getElem? (i := 103) (by decide +kernel), List.mem_of_getElem? (i := 389) (by decide +kernel), List.mem_of_getElem? (i := 390) (by decide +kernel)⟩
theorem lw_p3 : lw_okq (⟨"ManyGoods$WayTable", "follow", "(LManyGoods$Net;IIIII)V"⟩, 4) := ⟨⟨by decide +kernel, by decide +kernel⟩, List.mem_of_getElem? (i := 103) (by decide +kernel), List.mem_of_getElem? (i := 397) (by decide +kernel), List.mem_of_getElem? (i := 398) (by decide +kernel)⟩
theorem lw_p4 : lw_okq (⟨"ManyGoods", "refreshPlan", "()V"⟩, 10) := ⟨⟨by decide +kernel, by decide +kernel⟩, List.mem_of_getElem? (i := 14) (by decide +kernel), List.mem_of_getElem? (i := 413) (by decide +kernel), List.mem_of_getElem? (i := 414) (by decide +kernel)⟩
theorem lw_p5 : lw_okq (⟨"ManyGoods$Planner", "prepare", "(LManyGoods$Net;LManyGoods$WayTable;)V"⟩, 7) := ⟨⟨by decide +kernel, by decide +kernel⟩, List.mem_of_getElem? (i := 172) (by decide +kernel), List.mem_of_getElem? (i := 421) (by decide +kernel), List.mem_of_getElem? (i := 422) (by decide +kernel)⟩
theorem lw_p6 : lw_okq (⟨"ManyGoods$Planner", "choose", "(LManyGoods$Net;LManyGoods$WayTable;III)V"⟩, 7) := ⟨⟨by decide +kernel, by decide +kernel⟩, List.mem_of_getElem? (i := 172) (by decide +kernel), List.mem_of_getElem? (i := 429) (by decide +kernel), List.mem_of_getElem? (i := 430) (by decide +kernel)⟩
theorem lw_p7 : lw_okq (⟨"ManyGoods$Planner", "mayBeBetter", "(II)Z"⟩, 7) := ⟨⟨by decide +kernel, by decide +kernel⟩, List.mem_of_getElem? (i := 172) (by decide +kernel), List.mem_of_getElem? (i := 433) (by decide +kernel), List.mem_of_getElem? (i := 434) (by decide +kernel)⟩
theorem lw_p8 : lw_okq (⟨"ManyGoods$Planner", "keep", "(III)V"⟩, 7) := ⟨⟨by decide +kernel, by decide +kernel⟩, List.mem_of_getElem? (i := 172) (by decide +kernel), List.mem_of_getElem? (i := 437) (by decide +kernel), List.mem_of_getElem? (i := 438) (by decide +kernel)⟩
theorem lw_p9 : lw_okq (⟨"ManyGoods$Planner", "serve", "(LManyGoods$Net;LManyGoods$WayTable;IIII)V"⟩, 7) := ⟨⟨by decide +kernel, by decide +kernel⟩, List.mem_of_getElem? (i := 172) (by decide +kernel), List.mem_of_getElem? (i := 445) (by decide +kernel), List.mem_of_getElem? (i := 446) (by decide +kernel)⟩
theorem lw_p10 : lw_okq (⟨"ManyGoods$Planner", "leaveOut", "(LManyGoods$Net;LManyGoods$WayTable;III)V"⟩, 7) := ⟨⟨by decide +kernel, by decide +kernel⟩, List.mem_of_getElem? (i := 172) (by decide +kernel), List.mem_of_getElem? (i := 453) (by decide +kernel), List.mem_of_getElem? (i := 454) (by decide +kernel)⟩
theorem lw_p11 : lw_okq (⟨"ManyGoods", "areTriedThere", "()Z"⟩, 10) := ⟨⟨by decide +kernel, by decide +kernel⟩, List.mem_of_getElem? (i := 14) (by decide +kernel), List.mem_of_getElem? (i := 492) (by decide +kernel), List.mem_of_getElem? (i := 493) (by decide +kernel)⟩
theorem lw_p12 : lw_okq (⟨"ManyGoods", "triedWorth", "()I"⟩, 10) := ⟨⟨by decide +kernel, by decide +kernel⟩, List.mem_of_getElem? (i := 14) (by decide +kernel), List.mem_of_getElem? (i := 496) (by decide +kernel), List.mem_of_getElem? (i := 497) (by decide +kernel)⟩
theorem lw_p13 : lw_okq (⟨"ManyGoods", "triedCost", "()I"⟩, 10) := ⟨⟨by decide +kernel, by decide +kernel⟩, List.mem_of_getElem? (i := 14) (by decide +kernel), List.mem_of_getElem? (i := 500) (by decide +kernel), List.mem_of_getElem? (i := 501) (by decide +kernel)⟩
theorem lw_p14 : lw_okq (⟨"ManyGoods", "refreshRates", "()V"⟩, 10) := ⟨⟨by decide +kernel, by decide +kernel⟩, List.mem_of_getElem? (i := 14) (by decide +kernel), List.mem_of_getElem? (i := 512) (by decide +kernel), List.mem_of_getElem? (i := 513) (by decide +kernel)⟩
theorem lw_p15 : lw_okq (⟨"ManyGoods$FairRates", "findTightest", "(LManyGoods$Net;LManyGoods$WayTable;)I"⟩, 6) := ⟨⟨by decide +kernel, by decide +kernel⟩, List.mem_of_getElem? (i := 217) (by decide +kernel), List.mem_of_getElem? (i := 520) (by decide +kernel), List.mem_of_getElem? (i := 521) (by decide +kernel)⟩
def lw_privs_1 : List (MethodName × Nat) := [(⟨"ManyGoods$WayTable", "measure", "(LManyGoods$Net;I)V"⟩, 4), (⟨"ManyGoods$WayTable", "walk", "(LManyGoods$Net;IIIII)V"⟩, 4), (⟨"ManyGoods$WayTable", "isWorthwhile", "(III)Z"⟩, 4), (⟨"ManyGoods$WayTable", "follow", "(LManyGoods$Net;IIIII)V"⟩, 4), (⟨"ManyGoods", "refreshPlan", "()V"⟩, 10), (⟨"ManyGoods$Planner", "prepare", "(LManyGoods$Net;LManyGoods$WayTable;)V"⟩, 7), (⟨"ManyGoods$Planner", "choose", "(LManyGoods$Net;LManyGoods$WayTable;III)V"⟩, 7), (⟨"ManyGoods$Planner", "mayBeBetter", "(II)Z"⟩, 7), (⟨"ManyGoods$Planner", "keep", "(III)V"⟩, 7), (⟨"ManyGoods$Planner", "serve", "(LManyGoods$Net;LManyGoods$WayTable;IIII)V"⟩, 7), (⟨"ManyGoods$Planner", "leaveOut", "(LManyGoods$Net;LManyGoods$WayTable;III)V"⟩, 7), (⟨"ManyGoods", "areTriedThere", "()Z"⟩, 10), (⟨"ManyGoods", "triedWorth", "()I"⟩, 10), (⟨"ManyGoods", "triedCost", "()I"⟩, 10), (⟨"ManyGoods", "refreshRates", "()V"⟩, 10), (⟨"ManyGoods$FairRates", "findTightest", "(LManyGoods$Net;LManyGoods$WayTable;)I"⟩, 6)]
theorem lw_r1 : ∀ q ∈ lw_privs_1, lw_okq q := List.forall_mem_cons.mpr ⟨lw_p0, List.forall_mem_cons.mpr ⟨lw_p1, List.forall_mem_cons.mpr ⟨lw_p2, List.forall_mem_cons.mpr ⟨lw_p3, List.forall_mem_cons.mpr ⟨lw_p4, List.forall_mem_cons.mpr ⟨lw_p5, List.forall_mem_cons.mpr ⟨lw_p6, List.forall_mem_cons.mpr ⟨lw_p7, List.forall_mem_cons.mpr ⟨lw_p8, List.forall_mem_cons.mpr ⟨lw_p9, List.forall_mem_cons.mpr ⟨lw_p10, List.forall_mem_cons.mpr ⟨lw_p11, List.forall_mem_cons.mpr ⟨lw_p12, List.forall_mem_cons.mpr ⟨lw_p13, List.forall_mem_cons.mpr ⟨lw_p14, List.forall_mem_cons.mpr ⟨lw_p15, fun _ h => absurd h List.not_mem_nil⟩⟩⟩⟩⟩⟩⟩⟩⟩⟩⟩⟩⟩⟩⟩⟩
theorem lw_p16 : lw_okq (⟨"ManyGoods$FairRates", "openUsers", "(LManyGoods$Net;LManyGoods$WayTable;I)I"⟩, 6) := ⟨⟨by decide +kernel, by decide +kernel⟩, List.mem_of_getElem? (i := 217) (by decide +kernel), List.mem_of_getElem? (i := 524) (by decide +kernel), List.mem_of_getElem? (i := 525) (by decide +kernel)⟩
theorem lw_p17 : lw_okq (⟨"ManyGoods$FairRates", "setShare", "(LManyGoods$Net;LManyGoods$WayTable;II)V"⟩, 6) := ⟨⟨by decide +kernel, by decide +kernel⟩, List.mem_of_getElem? (i := 217) (by decide +kernel), List.mem_of_getElem? (i := 532) (by decide +kernel), List.mem_of_getElem? (i := 533) (by decide +kernel)⟩
theorem lw_p18 : lw_okq (⟨"ManyGoods$FairRates", "closeAlong", "(LManyGoods$Net;LManyGoods$WayTable;I)V"⟩, 6) := ⟨⟨by decide +kernel, by decide +kernel⟩, List.mem_of_getElem? (i := 217) (by decide +kernel), List.mem_of_getElem? (i := 552) (by decide +kernel), List.mem_of_getElem? (i := 553) (by decide +kernel)⟩
theorem lw_p19 : lw_okq (⟨"ManyGoods$Flow", "reaches", "(LManyGoods$Net;II)Z"⟩, 3) := ⟨⟨by decide +kernel, by decide +kernel⟩, List.mem_of_getElem? (i := 263) (by decide +kernel), List.mem_of_getElem? (i := 568) (by decide +kernel), List.mem_of_getElem? (i := 569) (by decide +kernel)⟩
theorem lw_p20 : lw_okq (⟨"ManyGoods$Flow", "push", "(LManyGoods$Net;I)I"⟩, 3) := ⟨⟨by decide +kernel, by decide +kernel⟩, List.mem_of_getElem? (i := 263) (by decide +kernel), List.mem_of_getElem? (i := 575) (by decide +kernel), List.mem_of_getElem? (i := 576) (by decide +kernel)⟩
theorem lw_p21 : lw_okq (⟨"ManyGoods$Net", "demandOutOf", "(I)I"⟩, 13) := ⟨⟨by decide +kernel, by decide +kernel⟩, List.mem_of_getElem? (i := 22) (by decide +kernel), List.mem_of_getElem? (i := 588) (by decide +kernel), List.mem_of_getElem? (i := 589) (by decide +kernel)⟩
theorem lw_p22 : lw_okq (⟨"ManyGoodsModel", "noNode", "(I)Z"⟩, 26) := ⟨⟨by decide +kernel, by decide +kernel⟩, List.mem_of_getElem? (i := 602) (by decide +kernel), List.mem_of_getElem? (i := 696) (by decide +kernel), List.mem_of_getElem? (i := 697) (by decide +kernel)⟩
theorem lw_p23 : lw_okq (⟨"ManyGoodsModel", "layWays", "()V"⟩, 26) := ⟨⟨by decide +kernel, by decide +kernel⟩, List.mem_of_getElem? (i := 602) (by decide +kernel), List.mem_of_getElem? (i := 703) (by decide +kernel), List.mem_of_getElem? (i := 704) (by decide +kernel)⟩
theorem lw_p24 : lw_okq (⟨"ManyGoodsModel", "keep", "(III)V"⟩, 26) := ⟨⟨by decide +kernel, by decide +kernel⟩, List.mem_of_getElem? (i := 602) (by decide +kernel), List.mem_of_getElem? (i := 710) (by decide +kernel), List.mem_of_getElem? (i := 711) (by decide +kernel)⟩
theorem lw_p25 : lw_okq (⟨"ManyGoodsModel", "isAhead", "(III)Z"⟩, 26) := ⟨⟨by decide +kernel, by decide +kernel⟩, List.mem_of_getElem? (i := 602) (by decide +kernel), List.mem_of_getElem? (i := 714) (by decide +kernel), List.mem_of_getElem? (i := 715) (by decide +kernel)⟩
theorem lw_p26 : lw_okq (⟨"ManyGoodsModel", "noArc", "(I)Z"⟩, 26) := ⟨⟨by decide +kernel, by decide +kernel⟩, List.mem_of_getElem? (i := 602) (by decide +kernel), List.mem_of_getElem? (i := 722) (by decide +kernel), List.mem_of_getElem? (i := 723) (by decide +kernel)⟩
theorem lw_p27 : lw_okq (⟨"ManyGoodsModel", "noGood", "(I)Z"⟩, 26) := ⟨⟨by decide +kernel, by decide +kernel⟩, List.mem_of_getElem? (i := 602) (by decide +kernel), List.mem_of_getElem? (i := 738) (by decide +kernel), List.mem_of_getElem? (i := 739) (by decide +kernel)⟩
theorem lw_p28 : lw_okq (⟨"ManyGoodsModel", "findBest", "()V"⟩, 26) := ⟨⟨by decide +kernel, by decide +kernel⟩, List.mem_of_getElem? (i := 602) (by decide +kernel), List.mem_of_getElem? (i := 758) (by decide +kernel), List.mem_of_getElem? (i := 759) (by decide +kernel)⟩
theorem lw_p29 : lw_okq (⟨"ManyGoodsModel", "fits", "(II)Z"⟩, 26) := ⟨⟨by decide +kernel, by decide +kernel⟩, List.mem_of_getElem? (i := 602) (by decide +kernel), List.mem_of_getElem? (i := 765) (by decide +kernel), List.mem_of_getElem? (i := 766) (by decide +kernel)⟩
theorem lw_p30 : lw_okq (⟨"ManyGoodsModel", "load", "(III)V"⟩, 26) := ⟨⟨by decide +kernel, by decide +kernel⟩, List.mem_of_getElem? (i := 602) (by decide +kernel), List.mem_of_getElem? (i := 769) (by decide +kernel), List.mem_of_getElem? (i := 770) (by decide +kernel)⟩
theorem lw_p31 : lw_okq (⟨"ManyGoodsModel", "loadOf", "([II)I"⟩, 26) := ⟨⟨by decide +kernel, by decide +kernel⟩, List.mem_of_getElem? (i := 602) (by decide +kernel), List.mem_of_getElem? (i := 785) (by decide +kernel), List.mem_of_getElem? (i := 786) (by decide +kernel)⟩
def lw_privs_2 : List (MethodName × Nat) := [(⟨"ManyGoods$FairRates", "openUsers", "(LManyGoods$Net;LManyGoods$WayTable;I)I"⟩, 6), (⟨"ManyGoods$FairRates", "setShare", "(LManyGoods$Net;LManyGoods$WayTable;II)V"⟩, 6), (⟨"ManyGoods$FairRates", "closeAlong", "(LManyGoods$Net;LManyGoods$WayTable;I)V"⟩, 6), (⟨"ManyGoods$Flow", "reaches", "(LManyGoods$Net;II)Z"⟩, 3), (⟨"ManyGoods$Flow", "push", "(LManyGoods$Net;I)I"⟩, 3), (⟨"ManyGoods$Net", "demandOutOf", "(I)I"⟩, 13), (⟨"ManyGoodsModel", "noNode", "(I)Z"⟩, 26), (⟨"ManyGoodsModel", "layWays", "()V"⟩, 26), (⟨"ManyGoodsModel", "keep", "(III)V"⟩, 26), (⟨"ManyGoodsModel", "isAhead", "(III)Z"⟩, 26), (⟨"ManyGoodsModel", "noArc", "(I)Z"⟩, 26), (⟨"ManyGoodsModel", "noGood", "(I)Z"⟩, 26), (⟨"ManyGoodsModel", "findBest", "()V"⟩, 26), (⟨"ManyGoodsModel", "fits", "(II)Z"⟩, 26), (⟨"ManyGoodsModel", "load", "(III)V"⟩, 26), (⟨"ManyGoodsModel", "loadOf", "([II)I"⟩, 26)]
theorem lw_r2 : ∀ q ∈ lw_privs_2, lw_okq q := List.forall_mem_cons.mpr ⟨lw_p16, List.forall_mem_cons.mpr ⟨lw_p17, List.forall_mem_cons.mpr ⟨lw_p18, List.forall_mem_cons.mpr ⟨lw_p19, List.forall_mem_cons.mpr ⟨lw_p20, List.forall_mem_cons.mpr ⟨lw_p21, List.forall_mem_cons.mpr ⟨lw_p22, List.forall_mem_cons.mpr ⟨lw_p23, List.forall_mem_cons.mpr ⟨lw_p24, List.forall_mem_cons.mpr ⟨lw_p25, List.forall_mem_cons.mpr ⟨lw_p26, List.forall_mem_cons.mpr ⟨lw_p27, List.forall_mem_cons.mpr ⟨lw_p28, List.forall_mem_cons.mpr ⟨lw_p29, List.forall_mem_cons.mpr ⟨lw_p30, List.forall_mem_cons.mpr ⟨lw_p31, fun _ h => absurd h List.not_mem_nil⟩⟩⟩⟩⟩⟩⟩⟩⟩⟩⟩⟩⟩⟩⟩⟩
theorem lw_p32 : lw_okq (⟨"ManyGoodsModel", "hasArc", "(III)Z"⟩, 26) := ⟨⟨by decide +kernel, by decide +kernel⟩, List.mem_of_getElem? (i := 602) (by decide +kernel), List.mem_of_getElem? (i := 789) (by decide +kernel), List.mem_of_getElem? (i := 790) (by decide +kernel)⟩
theorem lw_p33 : lw_okq (⟨"ManyGoodsModel", "findRates", "()V"⟩, 26) := ⟨⟨by decide +kernel, by decide +kernel⟩, List.mem_of_getElem? (i := 602) (by decide +kernel), List.mem_of_getElem? (i := 809) (by decide +kernel), List.mem_of_getElem? (i := 810) (by decide +kernel)⟩
def lw_privs_3 : List (MethodName × Nat) := [(⟨"ManyGoodsModel", "hasArc", "(III)Z"⟩, 26), (⟨"ManyGoodsModel", "findRates", "()V"⟩, 26)]
theorem lw_r3 : ∀ q ∈ lw_privs_3, lw_okq q := List.forall_mem_cons.mpr ⟨lw_p32, List.forall_mem_cons.mpr ⟨lw_p33, fun _ h => absurd h List.not_mem_nil⟩⟩
def lw_privs : List (MethodName × Nat) := lw_privs_1 ++ (lw_privs_2 ++ (lw_privs_3))
def lw_tbl : List Cond := k2_sels lw_privs ++ tables_1
theorem lw_privs_ok : ∀ q ∈ lw_privs, lw_okq q := by
  show ∀ q ∈ lw_privs_1 ++ (lw_privs_2 ++ (lw_privs_3)), lw_okq q
  exact List.forall_mem_append.mpr ⟨lw_r1, List.forall_mem_append.mpr ⟨lw_r2, lw_r3⟩⟩

/-- a method: its class number, name, code, locals, return type -/
abbrev xT : Type := Nat × MethodName × ByteArray × Nat × Option FieldType
def RX0 : String := "ManyGoods$FairRates"
def TX0 : u_T := fun k => match k with
  | 0 => ("ManyGoods$FairRates", "shares", "[LManyGoods$Fraction;", true)
  | 1 => ("ManyGoods$FairRates", "bottlenecks", "[I", true)
  | 2 => ("ManyGoods$FairRates", "open", "[Z", true)
  | 3 => ("ManyGoods$FairRates", "share", "LManyGoods$Fraction;", true)
  | 4 => ("ManyGoods$FairRates", "tightest", "LManyGoods$Fraction;", true)
  | _ => ("ManyGoods$FairRates", "version", "I", false)
def tyX0 : Nat → FieldType := fun k => match k with
  | 0 => .array (.object "ManyGoods$Fraction")
  | 1 => .array .int
  | 2 => .array .boolean
  | 3 => .object "ManyGoods$Fraction"
  | 4 => .object "ManyGoods$Fraction"
  | _ => .int
abbrev wsX00 : List Cond := u_ws RX0 TX0 6
theorem nmX0 : ∀ a, a < 6 → ∀ b, b < 6 → a ≠ b → (TX0 a).2.1 ≠ (TX0 b).2.1 := by decide +kernel
theorem tyX0_ok : ∀ k, k < 6 → parseFieldDescriptor (TX0 k).2.2.1 = some (tyX0 k) := by decide +kernel
def RX1 : String := "ManyGoods$Flow"
def TX1 : u_T := fun k => match k with
  | 0 => ("ManyGoods$Flow", "left", "[I", true)
  | 1 => ("ManyGoods$Flow", "cameBy", "[I", true)
  | _ => ("ManyGoods$Flow", "queue", "[I", true)
def tyX1 : Nat → FieldType := fun k => match k with
  | 0 => .array .int
  | 1 => .array .int
  | _ => .array .int
abbrev wsX10 : List Cond := u_ws RX1 TX1 3
theorem nmX1 : ∀ a, a < 3 → ∀ b, b < 3 → a ≠ b → (TX1 a).2.1 ≠ (TX1 b).2.1 := by decide +kernel
theorem tyX1_ok : ∀ k, k < 3 → parseFieldDescriptor (TX1 k).2.2.1 = some (tyX1 k) := by decide +kernel
def RX2 : String := "ManyGoods$Fraction"
def TX2 : u_T := fun k => match k with
  | 0 => ("ManyGoods$Fraction", "above", "J", false)
  | _ => ("ManyGoods$Fraction", "below", "J", false)
def tyX2 : Nat → FieldType := fun k => match k with
  | 0 => .long
  | _ => .long
abbrev wsX20 : List Cond := u_ws RX2 TX2 2
theorem nmX2 : ∀ a, a < 2 → ∀ b, b < 2 → a ≠ b → (TX2 a).2.1 ≠ (TX2 b).2.1 := by decide +kernel
theorem tyX2_ok : ∀ k, k < 2 → parseFieldDescriptor (TX2 k).2.2.1 = some (tyX2 k) := by decide +kernel
def RX3 : String := "ManyGoods$Loads"
def TX3 : u_T := fun k => match k with
  | _ => ("ManyGoods$Loads", "amounts", "[I", true)
def tyX3 : Nat → FieldType := fun k => match k with
  | _ => .array .int
abbrev wsX30 : List Cond := u_ws RX3 TX3 1
theorem nmX3 : ∀ a, a < 1 → ∀ b, b < 1 → a ≠ b → (TX3 a).2.1 ≠ (TX3 b).2.1 := by decide +kernel
theorem tyX3_ok : ∀ k, k < 1 → parseFieldDescriptor (TX3 k).2.2.1 = some (tyX3 k) := by decide +kernel
def RX4 : String := "ManyGoods$Net"
def TX4 : u_T := fun k => match k with
  | 0 => ("ManyGoods$Net", "nodes", "I", false)
  | 1 => ("ManyGoods$Net", "arcs", "I", false)
  | 2 => ("ManyGoods$Net", "goods", "I", false)
  | 3 => ("ManyGoods$Net", "version", "I", false)
  | 4 => ("ManyGoods$Net", "wayVersion", "I", false)
  | 5 => ("ManyGoods$Net", "tails", "[I", true)
  | 6 => ("ManyGoods$Net", "heads", "[I", true)
  | 7 => ("ManyGoods$Net", "capacities", "[I", true)
  | 8 => ("ManyGoods$Net", "costs", "[I", true)
  | 9 => ("ManyGoods$Net", "origins", "[I", true)
  | 10 => ("ManyGoods$Net", "goals", "[I", true)
  | 11 => ("ManyGoods$Net", "demands", "[I", true)
  | _ => ("ManyGoods$Net", "worths", "[I", true)
def tyX4 : Nat → FieldType := fun k => match k with
  | 0 => .int
  | 1 => .int
  | 2 => .int
  | 3 => .int
  | 4 => .int
  | 5 => .array .int
  | 6 => .array .int
  | 7 => .array .int
  | 8 => .array .int
  | 9 => .array .int
  | 10 => .array .int
  | 11 => .array .int
  | _ => .array .int
abbrev wsX40 : List Cond := u_ws RX4 TX4 13
theorem nmX4 : ∀ a, a < 13 → ∀ b, b < 13 → a ≠ b → (TX4 a).2.1 ≠ (TX4 b).2.1 := by decide +kernel
theorem tyX4_ok : ∀ k, k < 13 → parseFieldDescriptor (TX4 k).2.2.1 = some (tyX4 k) := by decide +kernel
def RX5 : String := "ManyGoods$Planner"
def TX5 : u_T := fun k => match k with
  | 0 => ("ManyGoods$Planner", "kept", "[I", true)
  | 1 => ("ManyGoods$Planner", "keptWorth", "I", false)
  | 2 => ("ManyGoods$Planner", "keptCost", "I", false)
  | 3 => ("ManyGoods$Planner", "chosen", "[I", true)
  | 4 => ("ManyGoods$Planner", "limits", "[I", true)
  | 5 => ("ManyGoods$Planner", "hopes", "[I", true)
  | _ => ("ManyGoods$Planner", "loads", "LManyGoods$Loads;", true)
def tyX5 : Nat → FieldType := fun k => match k with
  | 0 => .array .int
  | 1 => .int
  | 2 => .int
  | 3 => .array .int
  | 4 => .array .int
  | 5 => .array .int
  | _ => .object "ManyGoods$Loads"
abbrev wsX50 : List Cond := u_ws RX5 TX5 7
theorem nmX5 : ∀ a, a < 7 → ∀ b, b < 7 → a ≠ b → (TX5 a).2.1 ≠ (TX5 b).2.1 := by decide +kernel
theorem tyX5_ok : ∀ k, k < 7 → parseFieldDescriptor (TX5 k).2.2.1 = some (tyX5 k) := by decide +kernel
def RX6 : String := "ManyGoods$Way"
def TX6 : u_T := fun k => match k with
  | 0 => ("ManyGoods$Way", "length", "I", false)
  | 1 => ("ManyGoods$Way", "cost", "I", false)
  | _ => ("ManyGoods$Way", "arcs", "[I", true)
def tyX6 : Nat → FieldType := fun k => match k with
  | 0 => .int
  | 1 => .int
  | _ => .array .int
abbrev wsX60 : List Cond := u_ws RX6 TX6 3
theorem nmX6 : ∀ a, a < 3 → ∀ b, b < 3 → a ≠ b → (TX6 a).2.1 ≠ (TX6 b).2.1 := by decide +kernel
theorem tyX6_ok : ∀ k, k < 3 → parseFieldDescriptor (TX6 k).2.2.1 = some (tyX6 k) := by decide +kernel
def RX7 : String := "ManyGoods$WayList"
def TX7 : u_T := fun k => match k with
  | 0 => ("ManyGoods$WayList", "size", "I", false)
  | _ => ("ManyGoods$WayList", "items", "[LManyGoods$Way;", true)
def tyX7 : Nat → FieldType := fun k => match k with
  | 0 => .int
  | _ => .array (.object "ManyGoods$Way")
abbrev wsX70 : List Cond := u_ws RX7 TX7 2
theorem nmX7 : ∀ a, a < 2 → ∀ b, b < 2 → a ≠ b → (TX7 a).2.1 ≠ (TX7 b).2.1 := by decide +kernel
theorem tyX7_ok : ∀ k, k < 2 → parseFieldDescriptor (TX7 k).2.2.1 = some (tyX7 k) := by decide +kernel
def RX8 : String := "ManyGoods$WayTable"
def TX8 : u_T := fun k => match k with
  | 0 => ("ManyGoods$WayTable", "lists", "[LManyGoods$WayList;", true)
  | 1 => ("ManyGoods$WayTable", "trail", "[I", true)
  | 2 => ("ManyGoods$WayTable", "least", "[I", true)
  | _ => ("ManyGoods$WayTable", "wayVersion", "I", false)
def tyX8 : Nat → FieldType := fun k => match k with
  | 0 => .array (.object "ManyGoods$WayList")
  | 1 => .array .int
  | 2 => .array .int
  | _ => .int
abbrev wsX80 : List Cond := u_ws RX8 TX8 4
theorem nmX8 : ∀ a, a < 4 → ∀ b, b < 4 → a ≠ b → (TX8 a).2.1 ≠ (TX8 b).2.1 := by decide +kernel
theorem tyX8_ok : ∀ k, k < 4 → parseFieldDescriptor (TX8 k).2.2.1 = some (tyX8 k) := by decide +kernel
def RX9 : String := "ManyGoods"
def TX9 : u_T := fun k => match k with
  | 0 => ("ManyGoods", "net", "LManyGoods$Net;", true)
  | 1 => ("ManyGoods", "table", "LManyGoods$WayTable;", true)
  | 2 => ("ManyGoods", "planner", "LManyGoods$Planner;", true)
  | 3 => ("ManyGoods", "probe", "LManyGoods$Planner;", true)
  | 4 => ("ManyGoods", "planLoads", "LManyGoods$Loads;", true)
  | 5 => ("ManyGoods", "triedLoads", "LManyGoods$Loads;", true)
  | 6 => ("ManyGoods", "tried", "[I", true)
  | 7 => ("ManyGoods", "rates", "LManyGoods$FairRates;", true)
  | 8 => ("ManyGoods", "flow", "LManyGoods$Flow;", true)
  | _ => ("ManyGoods", "planVersion", "I", false)
def tyX9 : Nat → FieldType := fun k => match k with
  | 0 => .object "ManyGoods$Net"
  | 1 => .object "ManyGoods$WayTable"
  | 2 => .object "ManyGoods$Planner"
  | 3 => .object "ManyGoods$Planner"
  | 4 => .object "ManyGoods$Loads"
  | 5 => .object "ManyGoods$Loads"
  | 6 => .array .int
  | 7 => .object "ManyGoods$FairRates"
  | 8 => .object "ManyGoods$Flow"
  | _ => .int
abbrev wsX90 : List Cond := u_ws RX9 TX9 10
theorem nmX9 : ∀ a, a < 10 → ∀ b, b < 10 → a ≠ b → (TX9 a).2.1 ≠ (TX9 b).2.1 := by decide +kernel
theorem tyX9_ok : ∀ k, k < 10 → parseFieldDescriptor (TX9 k).2.2.1 = some (tyX9 k) := by decide +kernel
def RX10 : String := "ManyGoodsModel"
def TX10 : u_T := fun k => match k with
  | 0 => ("ManyGoodsModel", "thrown", "I", false)
  | 1 => ("ManyGoodsModel", "nodes", "I", false)
  | 2 => ("ManyGoodsModel", "arcs", "I", false)
  | 3 => ("ManyGoodsModel", "arcFrom", "[I", true)
  | 4 => ("ManyGoodsModel", "arcTo", "[I", true)
  | 5 => ("ManyGoodsModel", "room", "[I", true)
  | 6 => ("ManyGoodsModel", "cost", "[I", true)
  | 7 => ("ManyGoodsModel", "goods", "I", false)
  | 8 => ("ManyGoodsModel", "from", "[I", true)
  | 9 => ("ManyGoodsModel", "to", "[I", true)
  | 10 => ("ManyGoodsModel", "demand", "[I", true)
  | 11 => ("ManyGoodsModel", "worth", "[I", true)
  | 12 => ("ManyGoodsModel", "tried", "[I", true)
  | 13 => ("ManyGoodsModel", "many", "[I", true)
  | 14 => ("ManyGoodsModel", "wayArcs", "[I", true)
  | 15 => ("ManyGoodsModel", "wayLength", "[I", true)
  | 16 => ("ManyGoodsModel", "wayCost", "[I", true)
  | 17 => ("ManyGoodsModel", "path", "[I", true)
  | 18 => ("ManyGoodsModel", "chosen", "[I", true)
  | 19 => ("ManyGoodsModel", "best", "[I", true)
  | 20 => ("ManyGoodsModel", "bestWorth", "I", false)
  | 21 => ("ManyGoodsModel", "bestSpent", "I", false)
  | 22 => ("ManyGoodsModel", "left", "[I", true)
  | 23 => ("ManyGoodsModel", "above", "[J", true)
  | 24 => ("ManyGoodsModel", "below", "[J", true)
  | _ => ("ManyGoodsModel", "neck", "[I", true)
def tyX10 : Nat → FieldType := fun k => match k with
  | 0 => .int
  | 1 => .int
  | 2 => .int
  | 3 => .array .int
  | 4 => .array .int
  | 5 => .array .int
  | 6 => .array .int
  | 7 => .int
  | 8 => .array .int
  | 9 => .array .int
  | 10 => .array .int
  | 11 => .array .int
  | 12 => .array .int
  | 13 => .array .int
  | 14 => .array .int
  | 15 => .array .int
  | 16 => .array .int
  | 17 => .array .int
  | 18 => .array .int
  | 19 => .array .int
  | 20 => .int
  | 21 => .int
  | 22 => .array .int
  | 23 => .array .long
  | 24 => .array .long
  | _ => .array .int
abbrev wsX100 : List Cond := u_ws RX10 TX10 26
theorem nmX10 : ∀ a, a < 26 → ∀ b, b < 26 → a ≠ b → (TX10 a).2.1 ≠ (TX10 b).2.1 := by decide +kernel
theorem tyX10_ok : ∀ k, k < 26 → parseFieldDescriptor (TX10 k).2.2.1 = some (tyX10 k) := by decide +kernel
abbrev vwCl : List vw_C := [(RX0, TX0, 6), (RX1, TX1, 3), (RX2, TX2, 2), (RX3, TX3, 1), (RX4, TX4, 13), (RX5, TX5, 7), (RX6, TX6, 3), (RX7, TX7, 2), (RX8, TX8, 4), (RX9, TX9, 10), (RX10, TX10, 26)]
def tX0_init : xT := (0, ⟨RX0, "<init>", "()V"⟩, prog_2_method_1_code, 2, none)
def tX0_refresh : xT := (0, ⟨RX0, "refresh", "(LManyGoods$Net;LManyGoods$WayTable;)V"⟩, prog_2_method_2_code, 5, none)
def tX0_findTightest : xT := (0, ⟨RX0, "findTightest", "(LManyGoods$Net;LManyGoods$WayTable;)I"⟩, prog_2_method_3_code, 6, (some .int))
def tX0_openUsers : xT := (0, ⟨RX0, "openUsers", "(LManyGoods$Net;LManyGoods$WayTable;I)I"⟩, prog_2_method_4_code, 6, (some .int))
def tX0_setShare : xT := (0, ⟨RX0, "setShare", "(LManyGoods$Net;LManyGoods$WayTable;II)V"⟩, prog_2_method_5_code, 7, none)
def tX0_closeAlong : xT := (0, ⟨RX0, "closeAlong", "(LManyGoods$Net;LManyGoods$WayTable;I)V"⟩, prog_2_method_6_code, 5, none)
def tX1_init : xT := (1, ⟨RX1, "<init>", "()V"⟩, prog_3_method_1_code, 1, none)
def tX1_most : xT := (1, ⟨RX1, "most", "(LManyGoods$Net;LManyGoods$Loads;II)I"⟩, prog_3_method_2_code, 7, (some .int))
def tX1_reaches : xT := (1, ⟨RX1, "reaches", "(LManyGoods$Net;II)Z"⟩, prog_3_method_3_code, 9, (some .boolean))
def tX1_push : xT := (1, ⟨RX1, "push", "(LManyGoods$Net;I)I"⟩, prog_3_method_4_code, 6, (some .int))
def tX1_startOf : xT := (1, ⟨RX1, "startOf", "(LManyGoods$Net;I)I"⟩, prog_3_method_5_code, 2, (some .int))
def tX2_init : xT := (2, ⟨RX2, "<init>", "()V"⟩, prog_4_method_1_code, 1, none)
def tX2_set : xT := (2, ⟨RX2, "set", "(JJ)V"⟩, prog_4_method_2_code, 7, none)
def tX2_subtract : xT := (2, ⟨RX2, "subtract", "(LManyGoods$Fraction;)V"⟩, prog_4_method_3_code, 2, none)
def tX2_isLessThan : xT := (2, ⟨RX2, "isLessThan", "(LManyGoods$Fraction;)Z"⟩, prog_4_method_4_code, 2, (some .boolean))
def tX2_commonFactor : xT := (2, ⟨RX2, "commonFactor", "(JJ)J"⟩, prog_4_method_5_code, 11, (some .long))
def tX3_init : xT := (3, ⟨RX3, "<init>", "()V"⟩, prog_5_method_1_code, 1, none)
def tX3_clear : xT := (3, ⟨RX3, "clear", "()V"⟩, prog_5_method_2_code, 2, none)
def tX3_add : xT := (3, ⟨RX3, "add", "(LManyGoods$Way;I)V"⟩, prog_5_method_3_code, 4, none)
def tX3_addAll : xT := (3, ⟨RX3, "addAll", "(LManyGoods$Net;LManyGoods$WayTable;[I)V"⟩, prog_5_method_4_code, 6, none)
def tX3_leavesRoomFor : xT := (3, ⟨RX3, "leavesRoomFor", "(LManyGoods$Way;I[I)Z"⟩, prog_5_method_5_code, 6, (some .boolean))
def tX3_firstAbove : xT := (3, ⟨RX3, "firstAbove", "([II)I"⟩, prog_5_method_6_code, 4, (some .int))
def tX4_init : xT := (4, ⟨RX4, "<init>", "()V"⟩, prog_6_method_1_code, 1, none)
def tX4_areTwoNodes : xT := (4, ⟨RX4, "areTwoNodes", "(II)Z"⟩, prog_6_method_2_code, 3, (some .boolean))
def tX4_isArc : xT := (4, ⟨RX4, "isArc", "(I)Z"⟩, prog_6_method_3_code, 2, (some .boolean))
def tX4_isGood : xT := (4, ⟨RX4, "isGood", "(I)Z"⟩, prog_6_method_4_code, 2, (some .boolean))
def tX4_addArc : xT := (4, ⟨RX4, "addArc", "(IIII)I"⟩, prog_6_method_5_code, 5, (some .int))
def tX4_addGood : xT := (4, ⟨RX4, "addGood", "(IIII)I"⟩, prog_6_method_6_code, 5, (some .int))
def tX4_isCut : xT := (4, ⟨RX4, "isCut", "(I)Z"⟩, prog_6_method_7_code, 4, (some .boolean))
def tX4_demandOutOf : xT := (4, ⟨RX4, "demandOutOf", "(I)I"⟩, prog_6_method_8_code, 4, (some .int))
def tX4_leadsOut : xT := (4, ⟨RX4, "leadsOut", "(III)Z"⟩, prog_6_method_9_code, 3, (some .boolean))
def tX5_init : xT := (5, ⟨RX5, "<init>", "()V"⟩, prog_7_method_1_code, 1, none)
def tX5_findBest : xT := (5, ⟨RX5, "findBest", "(LManyGoods$Net;LManyGoods$WayTable;)V"⟩, prog_7_method_2_code, 3, none)
def tX5_mostWorthWithWider : xT := (5, ⟨RX5, "mostWorthWithWider", "(LManyGoods$Net;LManyGoods$WayTable;III)I"⟩, prog_7_method_3_code, 6, (some .int))
def tX5_prepare : xT := (5, ⟨RX5, "prepare", "(LManyGoods$Net;LManyGoods$WayTable;)V"⟩, prog_7_method_4_code, 4, none)
def tX5_choose : xT := (5, ⟨RX5, "choose", "(LManyGoods$Net;LManyGoods$WayTable;III)V"⟩, prog_7_method_5_code, 8, none)
def tX5_serve : xT := (5, ⟨RX5, "serve", "(LManyGoods$Net;LManyGoods$WayTable;IIII)V"⟩, prog_7_method_6_code, 9, none)
def tX5_leaveOut : xT := (5, ⟨RX5, "leaveOut", "(LManyGoods$Net;LManyGoods$WayTable;III)V"⟩, prog_7_method_7_code, 6, none)
def tX5_mayBeBetter : xT := (5, ⟨RX5, "mayBeBetter", "(II)Z"⟩, prog_7_method_8_code, 3, (some .boolean))
def tX5_keep : xT := (5, ⟨RX5, "keep", "(III)V"⟩, prog_7_method_9_code, 5, none)
def tX6_init : xT := (6, ⟨RX6, "<init>", "()V"⟩, prog_8_method_1_code, 1, none)
def tX6_copyFrom : xT := (6, ⟨RX6, "copyFrom", "([III)V"⟩, prog_8_method_2_code, 5, none)
def tX6_uses : xT := (6, ⟨RX6, "uses", "(I)Z"⟩, prog_8_method_3_code, 3, (some .boolean))
def tX7_init : xT := (7, ⟨RX7, "<init>", "()V"⟩, prog_9_method_1_code, 2, none)
def tX7_has : xT := (7, ⟨RX7, "has", "(I)Z"⟩, prog_9_method_2_code, 2, (some .boolean))
def tX7_hasPlaceFor : xT := (7, ⟨RX7, "hasPlaceFor", "(I)Z"⟩, prog_9_method_3_code, 2, (some .boolean))
def tX7_insert : xT := (7, ⟨RX7, "insert", "([III)V"⟩, prog_9_method_4_code, 6, none)
def tX8_init : xT := (8, ⟨RX8, "<init>", "()V"⟩, prog_10_method_1_code, 2, none)
def tX8_refresh : xT := (8, ⟨RX8, "refresh", "(LManyGoods$Net;)V"⟩, prog_10_method_2_code, 3, none)
def tX8_measure : xT := (8, ⟨RX8, "measure", "(LManyGoods$Net;I)V"⟩, prog_10_method_3_code, 7, none)
def tX8_walk : xT := (8, ⟨RX8, "walk", "(LManyGoods$Net;IIIII)V"⟩, prog_10_method_4_code, 9, none)
def tX8_follow : xT := (8, ⟨RX8, "follow", "(LManyGoods$Net;IIIII)V"⟩, prog_10_method_5_code, 8, none)
def tX8_isWorthwhile : xT := (8, ⟨RX8, "isWorthwhile", "(III)Z"⟩, prog_10_method_6_code, 4, (some .boolean))
def tX9_init : xT := (9, ⟨RX9, "<init>", "()V"⟩, prog_1_method_1_code, 2, none)
def tX9_node : xT := (9, ⟨RX9, "node", "()I"⟩, prog_1_method_2_code, 1, (some .int))
def tX9_arc : xT := (9, ⟨RX9, "arc", "(IIII)I"⟩, prog_1_method_3_code, 5, (some .int))
def tX9_capacity : xT := (9, ⟨RX9, "capacity", "(II)I"⟩, prog_1_method_4_code, 4, (some .int))
def tX9_cost : xT := (9, ⟨RX9, "cost", "(II)I"⟩, prog_1_method_5_code, 4, (some .int))
def tX9_good : xT := (9, ⟨RX9, "good", "(IIII)I"⟩, prog_1_method_6_code, 5, (some .int))
def tX9_demand : xT := (9, ⟨RX9, "demand", "(II)I"⟩, prog_1_method_7_code, 4, (some .int))
def tX9_worth : xT := (9, ⟨RX9, "worth", "(II)I"⟩, prog_1_method_8_code, 4, (some .int))
def tX9_ways : xT := (9, ⟨RX9, "ways", "(I)I"⟩, prog_1_method_9_code, 2, (some .int))
def tX9_way : xT := (9, ⟨RX9, "way", "(III)I"⟩, prog_1_method_10_code, 6, (some .int))
def tX9_best : xT := (9, ⟨RX9, "best", "()I"⟩, prog_1_method_11_code, 1, (some .int))
def tX9_spent : xT := (9, ⟨RX9, "spent", "()I"⟩, prog_1_method_12_code, 1, (some .int))
def tX9_plan : xT := (9, ⟨RX9, "plan", "(I)I"⟩, prog_1_method_13_code, 2, (some .int))
def tX9_load : xT := (9, ⟨RX9, "load", "(I)I"⟩, prog_1_method_14_code, 2, (some .int))
def tX9_price : xT := (9, ⟨RX9, "price", "(II)I"⟩, prog_1_method_15_code, 3, (some .int))
def tX9_attempt : xT := (9, ⟨RX9, "attempt", "(II)I"⟩, prog_1_method_16_code, 4, (some .int))
def tX9_attempted : xT := (9, ⟨RX9, "attempted", "(I)I"⟩, prog_1_method_17_code, 2, (some .int))
def tX9_rate : xT := (9, ⟨RX9, "rate", "(II)I"⟩, prog_1_method_18_code, 4, (some .int))
def tX9_bottleneck : xT := (9, ⟨RX9, "bottleneck", "(I)I"⟩, prog_1_method_19_code, 2, (some .int))
def tX9_more : xT := (9, ⟨RX9, "more", "(I)I"⟩, prog_1_method_20_code, 2, (some .int))
def tX9_cut : xT := (9, ⟨RX9, "cut", "()I"⟩, prog_1_method_21_code, 3, (some .int))
def tX9_count : xT := (9, ⟨RX9, "count", "(I)I"⟩, prog_1_method_22_code, 2, (some .int))
def tX9_refreshPlan : xT := (9, ⟨RX9, "refreshPlan", "()V"⟩, prog_1_method_23_code, 1, none)
def tX9_refreshRates : xT := (9, ⟨RX9, "refreshRates", "()V"⟩, prog_1_method_24_code, 1, none)
def tX9_areTriedThere : xT := (9, ⟨RX9, "areTriedThere", "()Z"⟩, prog_1_method_25_code, 2, (some .boolean))
def tX9_triedWorth : xT := (9, ⟨RX9, "triedWorth", "()I"⟩, prog_1_method_26_code, 3, (some .int))
def tX9_triedCost : xT := (9, ⟨RX9, "triedCost", "()I"⟩, prog_1_method_27_code, 4, (some .int))
def tX9_isWithin : xT := (9, ⟨RX9, "isWithin", "(III)Z"⟩, prog_1_method_28_code, 3, (some .boolean))
def tX9_sumOfFirst : xT := (9, ⟨RX9, "sumOfFirst", "([II)I"⟩, prog_1_method_29_code, 4, (some .int))
def tX10_in : xT := (10, ⟨RX10, "in", "(III)Z"⟩, prog_12_method_2_code, 3, (some .boolean))
def tX10_init : xT := (10, ⟨RX10, "<init>", "()V"⟩, prog_12_method_3_code, 1, none)
def tX10_noNode : xT := (10, ⟨RX10, "noNode", "(I)Z"⟩, prog_12_method_4_code, 2, (some .boolean))
def tX10_noArc : xT := (10, ⟨RX10, "noArc", "(I)Z"⟩, prog_12_method_5_code, 2, (some .boolean))
def tX10_noGood : xT := (10, ⟨RX10, "noGood", "(I)Z"⟩, prog_12_method_6_code, 2, (some .boolean))
def tX10_node : xT := (10, ⟨RX10, "node", "()I"⟩, prog_12_method_7_code, 1, (some .int))
def tX10_arc : xT := (10, ⟨RX10, "arc", "(IIII)I"⟩, prog_12_method_8_code, 5, (some .int))
def tX10_capacity : xT := (10, ⟨RX10, "capacity", "(II)I"⟩, prog_12_method_9_code, 4, (some .int))
def tX10_cost : xT := (10, ⟨RX10, "cost", "(II)I"⟩, prog_12_method_10_code, 4, (some .int))
def tX10_good : xT := (10, ⟨RX10, "good", "(IIII)I"⟩, prog_12_method_11_code, 5, (some .int))
def tX10_demand : xT := (10, ⟨RX10, "demand", "(II)I"⟩, prog_12_method_12_code, 4, (some .int))
def tX10_worth : xT := (10, ⟨RX10, "worth", "(II)I"⟩, prog_12_method_13_code, 4, (some .int))
def tX10_layWays : xT := (10, ⟨RX10, "layWays", "()V"⟩, prog_12_method_14_code, 2, none)
def tX10_goOn : xT := (10, ⟨RX10, "goOn", "(LManyGoodsModel;IIIII)V"⟩, prog_12_method_15_code, 9, none)
def tX10_isAhead : xT := (10, ⟨RX10, "isAhead", "(III)Z"⟩, prog_12_method_16_code, 5, (some .boolean))
def tX10_keep : xT := (10, ⟨RX10, "keep", "(III)V"⟩, prog_12_method_17_code, 9, none)
def tX10_ways : xT := (10, ⟨RX10, "ways", "(I)I"⟩, prog_12_method_18_code, 2, (some .int))
def tX10_way : xT := (10, ⟨RX10, "way", "(III)I"⟩, prog_12_method_19_code, 5, (some .int))
def tX10_hasArc : xT := (10, ⟨RX10, "hasArc", "(III)Z"⟩, prog_12_method_20_code, 6, (some .boolean))
def tX10_load : xT := (10, ⟨RX10, "load", "(III)V"⟩, prog_12_method_21_code, 6, none)
def tX10_fits : xT := (10, ⟨RX10, "fits", "(II)Z"⟩, prog_12_method_22_code, 6, (some .boolean))
def tX10_plans : xT := (10, ⟨RX10, "plans", "(LManyGoodsModel;III)V"⟩, prog_12_method_23_code, 5, none)
def tX10_findBest : xT := (10, ⟨RX10, "findBest", "()V"⟩, prog_12_method_24_code, 2, none)
def tX10_best : xT := (10, ⟨RX10, "best", "()I"⟩, prog_12_method_25_code, 1, (some .int))
def tX10_spent : xT := (10, ⟨RX10, "spent", "()I"⟩, prog_12_method_26_code, 1, (some .int))
def tX10_plan : xT := (10, ⟨RX10, "plan", "(I)I"⟩, prog_12_method_27_code, 2, (some .int))
def tX10_loadOf : xT := (10, ⟨RX10, "loadOf", "([II)I"⟩, prog_12_method_28_code, 5, (some .int))
def tX10_load_ : xT := (10, ⟨RX10, "load", "(I)I"⟩, prog_12_method_29_code, 2, (some .int))
def tX10_price : xT := (10, ⟨RX10, "price", "(II)I"⟩, prog_12_method_30_code, 4, (some .int))
def tX10_attempt : xT := (10, ⟨RX10, "attempt", "(II)I"⟩, prog_12_method_31_code, 4, (some .int))
def tX10_attempted : xT := (10, ⟨RX10, "attempted", "(I)I"⟩, prog_12_method_32_code, 4, (some .int))
def tX10_common : xT := (10, ⟨RX10, "common", "(JJ)J"⟩, prog_12_method_33_code, 10, (some .long))
def tX10_findRates : xT := (10, ⟨RX10, "findRates", "()V"⟩, prog_12_method_34_code, 18, none)
def tX10_rate : xT := (10, ⟨RX10, "rate", "(II)I"⟩, prog_12_method_35_code, 3, (some .int))
def tX10_bottleneck : xT := (10, ⟨RX10, "bottleneck", "(I)I"⟩, prog_12_method_36_code, 2, (some .int))
def tX10_has : xT := (10, ⟨RX10, "has", "(II)Z"⟩, prog_12_method_37_code, 2, (some .boolean))
def tX10_more : xT := (10, ⟨RX10, "more", "(I)I"⟩, prog_12_method_38_code, 6, (some .int))
def tX10_cut : xT := (10, ⟨RX10, "cut", "()I"⟩, prog_12_method_39_code, 5, (some .int))
def tX10_count : xT := (10, ⟨RX10, "count", "(I)I"⟩, prog_12_method_40_code, 4, (some .int))
def tJ_min : xT := (12, ⟨"java/lang/Math", "min", "(II)I"⟩, prog_13_method_69_code, 2, (some .int))

def xnm (o : Nat) : String := match o with
  | 0 => RX0
  | 1 => RX1
  | 2 => RX2
  | 3 => RX3
  | 4 => RX4
  | 5 => RX5
  | 6 => RX6
  | 7 => RX7
  | 8 => RX8
  | 9 => RX9
  | 10 => RX10
  | 11 => "ManyGoodsLaw"
  | _ => "java/lang/Math"
def xtcs : List (List Nat) := [[2, 2, 2, 2, 2, 0], [2, 2, 2], [1, 1], [2], [0, 0, 0, 0, 0, 2, 2, 2, 2, 2, 2, 2, 2], [2, 0, 0, 2, 2, 2, 2], [0, 0, 2], [0, 2], [2, 2, 2, 0], [2, 2, 2, 2, 2, 2, 2, 2, 2, 0], [0, 0, 0, 2, 2, 2, 2, 0, 2, 2, 2, 2, 2, 2, 2, 2, 2, 2, 2, 2, 0, 0, 2, 2, 2, 2]]
def xfin (a b : Nat) : Bool := match vwCl[a]? with | some r => (r.2.1 b).2.2.2 | none => true
def xflt : List (Nat × Nat × Nat × Nat) := [(9, 65, 4, 0), (4, 36, 4, 0), (1, 21, 4, 1), (4, 44, 4, 1), (0, 62, 4, 1), (9, 79, 4, 1), (8, 52, 4, 1), (5, 49, 4, 1), (8, 32, 4, 2), (0, 40, 4, 2), (4, 47, 4, 2), (3, 27, 4, 2), (5, 57, 4, 2), (9, 99, 4, 2), (0, 37, 4, 3), (9, 68, 4, 3), (4, 50, 4, 3), (8, 29, 4, 4), (4, 53, 4, 4), (9, 96, 4, 4), (4, 9, 4, 5), (8, 61, 4, 5), (1, 52, 4, 5), (4, 15, 4, 6), (8, 58, 4, 6), (1, 55, 4, 6), (4, 18, 4, 7), (1, 27, 4, 7), (5, 54, 4, 7), (9, 90, 4, 7), (0, 98, 4, 7), (4, 21, 4, 8), (8, 55, 4, 8), (9, 93, 4, 8), (4, 24, 4, 9), (8, 45, 4, 9), (9, 201, 4, 9), (4, 27, 4, 10), (8, 38, 4, 10), (9, 204, 4, 10), (4, 30, 4, 11), (3, 48, 4, 11), (5, 86, 4, 11), (9, 108, 4, 11), (4, 33, 4, 12), (5, 71, 4, 12), (9, 111, 4, 12), (6, 15, 6, 0), (3, 15, 6, 0), (9, 134, 6, 0), (6, 19, 6, 1), (7, 22, 6, 1), (5, 104, 6, 1), (9, 139, 6, 1), (6, 9, 6, 2), (3, 21, 6, 2), (9, 142, 6, 2), (7, 18, 7, 0), (8, 35, 7, 0), (0, 49, 7, 0), (5, 66, 7, 0), (9, 122, 7, 0), (7, 11, 7, 1), (0, 88, 7, 1), (3, 44, 7, 1), (5, 82, 7, 1), (9, 130, 7, 1), (8, 11, 8, 0), (0, 43, 8, 0), (3, 32, 8, 0), (5, 60, 8, 0), (9, 118, 8, 0), (8, 17, 8, 1), (8, 21, 8, 2), (8, 24, 8, 3), (3, 9, 3, 0), (1, 30, 3, 0), (9, 156, 3, 0), (5, 9, 5, 0), (9, 153, 5, 0), (5, 35, 5, 1), (9, 147, 5, 1), (5, 39, 5, 2), (9, 150, 5, 2), (5, 15, 5, 3), (5, 18, 5, 4), (5, 21, 5, 5), (5, 27, 5, 6), (2, 17, 2, 0), (0, 77, 2, 0), (9, 192, 2, 0), (2, 7, 2, 1), (0, 81, 2, 1), (9, 198, 2, 1), (0, 11, 0, 0), (9, 188, 0, 0), (0, 17, 0, 1), (9, 185, 0, 1), (0, 21, 0, 2), (0, 26, 0, 3), (0, 30, 0, 4), (0, 33, 0, 5), (1, 9, 1, 0), (1, 15, 1, 1), (1, 18, 1, 2), (9, 12, 9, 0), (9, 19, 9, 1), (9, 26, 9, 2), (9, 30, 9, 3), (9, 36, 9, 4), (9, 40, 9, 5), (9, 43, 9, 6), (9, 50, 9, 7), (9, 57, 9, 8), (9, 61, 9, 9), (10, 1, 10, 0), (10, 75, 10, 1), (10, 82, 10, 2), (10, 13, 10, 3), (10, 17, 10, 4), (10, 20, 10, 5), (10, 23, 10, 6), (10, 85, 10, 7), (10, 26, 10, 8), (10, 29, 10, 9), (10, 32, 10, 10), (10, 35, 10, 11), (10, 38, 10, 12), (10, 41, 10, 13), (10, 44, 10, 14), (10, 47, 10, 15), (10, 50, 10, 16), (10, 53, 10, 17), (10, 56, 10, 18), (10, 59, 10, 19), (10, 112, 10, 20), (10, 115, 10, 21), (10, 62, 10, 22), (10, 65, 10, 23), (10, 69, 10, 24), (10, 72, 10, 25)]
def xnwt : List (Nat × Nat × Nat) := [(9, 9, 4), (9, 16, 8), (9, 23, 5), (9, 33, 3), (9, 47, 0), (9, 54, 1), (0, 9, 2), (5, 24, 3), (7, 9, 6), (8, 9, 7), (11, 7, 9), (11, 10, 10)]
def xant : List (Nat × Nat × Nat) := [(0, 9, 5), (7, 9, 3), (8, 9, 4)]
def xnest : List (String × Nat × MethodName × String) := [("ManyGoods", 11, ⟨"ManyGoods$Net", "<init>", "()V"⟩, "ManyGoods"), ("ManyGoods$WayList", 17, ⟨"ManyGoods$Way", "<init>", "()V"⟩, "ManyGoods"), ("ManyGoods", 25, ⟨"ManyGoods$Planner", "<init>", "()V"⟩, "ManyGoods"), ("ManyGoods$Planner", 26, ⟨"ManyGoods$Loads", "<init>", "()V"⟩, "ManyGoods"), ("ManyGoods", 35, ⟨"ManyGoods$Loads", "<init>", "()V"⟩, "ManyGoods"), ("ManyGoods$FairRates", 25, ⟨"ManyGoods$Fraction", "<init>", "()V"⟩, "ManyGoods"), ("ManyGoods", 56, ⟨"ManyGoods$Flow", "<init>", "()V"⟩, "ManyGoods"), ("ManyGoods$Net", 40, ⟨"ManyGoods", "isWithin", "(III)Z"⟩, "ManyGoods")]
end
section
/-! the words of the tables that the walks use, by their places -/
def xTB : List Cond := lw_tbl.filter goodWord
theorem xTB_in {w : Cond} (h : w ∈ lw_tbl) (hg : goodWord w = true) : w ∈ xTB := List.mem_filter.mpr ⟨h, hg⟩
def xtc (a b : Nat) : Nat := (xtcs.getD a []).getD b 9
def xCl (i : Nat) : Prop := ∃ (C : String) (T : u_T) (N : Nat) (ty : Nat → FieldType), vwCl[i]? = some (C, T, N) ∧ (∀ w ∈ u_ws C T N, w ∈ xTB) ∧ (∀ k, k < N → parseFieldDescriptor (T k).2.2.1 = some (ty k)) ∧ (∀ a, a < N → ∀ b, b < N → a ≠ b → (T a).2.1 ≠ (T b).2.1) ∧ (xtcs.getD i []).length = N ∧ (∀ k, k < N → (xtc i k = 0 ∧ ty k = .int) ∨ (xtc i k = 1 ∧ ty k = .long) ∨ (xtc i k = 2 ∧ ((∃ D, ty k = .object D) ∨ ∃ D, ty k = .array D))) ∧ C = xnm i ∧ Cond.instantiable C N ∈ xTB ∧ Cond.initialized C ∈ xTB ∧ (∀ k, k < N → (T k).1 = C)
theorem xin0 : ∀ w ∈ u_ws RX0 TX0 6, w ∈ xTB := by
  have h : (u_ws RX0 TX0 6).all (fun w => decide (w ∈ lw_tbl) && goodWord w) = true := by decide +kernel
  intro w hw
  have h1 := List.all_eq_true.mp h w hw
  simp only [Bool.and_eq_true, decide_eq_true_eq] at h1
  exact xTB_in h1.1 h1.2
theorem xty0 : ∀ k, k < 6 → (xtc 0 k = 0 ∧ tyX0 k = .int) ∨ (xtc 0 k = 1 ∧ tyX0 k = .long) ∨ (xtc 0 k = 2 ∧ ((∃ D, tyX0 k = .object D) ∨ ∃ D, tyX0 k = .array D)) := fun k hk => match k, hk with
    | 0, _ => Or.inr (Or.inr ⟨by decide +kernel, Or.inr ⟨_, rfl⟩⟩)
    | 1, _ => Or.inr (Or.inr ⟨by decide +kernel, Or.inr ⟨_, rfl⟩⟩)
    | 2, _ => Or.inr (Or.inr ⟨by decide +kernel, Or.inr ⟨_, rfl⟩⟩)
    | 3, _ => Or.inr (Or.inr ⟨by decide +kernel, Or.inl ⟨_, rfl⟩⟩)
    | 4, _ => Or.inr (Or.inr ⟨by decide +kernel, Or.inl ⟨_, rfl⟩⟩)
    | 5, _ => Or.inl ⟨by decide +kernel, rfl⟩
    | k + 6, h => absurd h (by omega)
theorem xcl0 : xCl 0 := ⟨RX0, TX0, 6, tyX0, rfl, xin0, tyX0_ok, nmX0, rfl, xty0, rfl, xTB_in (List.mem_of_getElem? (i := 251) (by decide +kernel)) rfl, xTB_in (List.mem_of_getElem? (i := 42) (by decide +kernel)) rfl, by decide +kernel⟩
theorem xin1 : ∀ w ∈ u_ws RX1 TX1 3, w ∈ xTB := by
  have h : (u_ws RX1 TX1 3).all (fun w => decide (w ∈ lw_tbl) && goodWord w) = true := by decide +kernel
  intro w hw
  have h1 := List.all_eq_true.mp h w hw
  simp only [Bool.and_eq_true, decide_eq_true_eq] at h1
  exact xTB_in h1.1 h1.2
theorem xty1 : ∀ k, k < 3 → (xtc 1 k = 0 ∧ tyX1 k = .int) ∨ (xtc 1 k = 1 ∧ tyX1 k = .long) ∨ (xtc 1 k = 2 ∧ ((∃ D, tyX1 k = .object D) ∨ ∃ D, tyX1 k = .array D)) := fun k hk => match k, hk with
    | 0, _ => Or.inr (Or.inr ⟨by decide +kernel, Or.inr ⟨_, rfl⟩⟩)
    | 1, _ => Or.inr (Or.inr ⟨by decide +kernel, Or.inr ⟨_, rfl⟩⟩)
    | 2, _ => Or.inr (Or.inr ⟨by decide +kernel, Or.inr ⟨_, rfl⟩⟩)
    | k + 3, h => absurd h (by omega)
theorem xcl1 : xCl 1 := ⟨RX1, TX1, 3, tyX1, rfl, xin1, tyX1_ok, nmX1, rfl, xty1, rfl, xTB_in (List.mem_of_getElem? (i := 297) (by decide +kernel)) rfl, xTB_in (List.mem_of_getElem? (i := 44) (by decide +kernel)) rfl, by decide +kernel⟩
theorem xin2 : ∀ w ∈ u_ws RX2 TX2 2, w ∈ xTB := by
  have h : (u_ws RX2 TX2 2).all (fun w => decide (w ∈ lw_tbl) && goodWord w) = true := by decide +kernel
  intro w hw
  have h1 := List.all_eq_true.mp h w hw
  simp only [Bool.and_eq_true, decide_eq_true_eq] at h1
  exact xTB_in h1.1 h1.2
theorem xty2 : ∀ k, k < 2 → (xtc 2 k = 0 ∧ tyX2 k = .int) ∨ (xtc 2 k = 1 ∧ tyX2 k = .long) ∨ (xtc 2 k = 2 ∧ ((∃ D, tyX2 k = .object D) ∨ ∃ D, tyX2 k = .array D)) := fun k hk => match k, hk with
    | 0, _ => Or.inr (Or.inl ⟨by decide +kernel, rfl⟩)
    | 1, _ => Or.inr (Or.inl ⟨by decide +kernel, rfl⟩)
    | k + 2, h => absurd h (by omega)
theorem xcl2 : xCl 2 := ⟨RX2, TX2, 2, tyX2, rfl, xin2, tyX2_ok, nmX2, rfl, xty2, rfl, xTB_in (List.mem_of_getElem? (i := 258) (by decide +kernel)) rfl, xTB_in (List.mem_of_getElem? (i := 43) (by decide +kernel)) rfl, by decide +kernel⟩
theorem xin3 : ∀ w ∈ u_ws RX3 TX3 1, w ∈ xTB := by
  have h : (u_ws RX3 TX3 1).all (fun w => decide (w ∈ lw_tbl) && goodWord w) = true := by decide +kernel
  intro w hw
  have h1 := List.all_eq_true.mp h w hw
  simp only [Bool.and_eq_true, decide_eq_true_eq] at h1
  exact xTB_in h1.1 h1.2
theorem xty3 : ∀ k, k < 1 → (xtc 3 k = 0 ∧ tyX3 k = .int) ∨ (xtc 3 k = 1 ∧ tyX3 k = .long) ∨ (xtc 3 k = 2 ∧ ((∃ D, tyX3 k = .object D) ∨ ∃ D, tyX3 k = .array D)) := fun k hk => match k, hk with
    | 0, _ => Or.inr (Or.inr ⟨by decide +kernel, Or.inr ⟨_, rfl⟩⟩)
    | k + 1, h => absurd h (by omega)
theorem xcl3 : xCl 3 := ⟨RX3, TX3, 1, tyX3, rfl, xin3, tyX3_ok, nmX3, rfl, xty3, rfl, xTB_in (List.mem_of_getElem? (i := 212) (by decide +kernel)) rfl, xTB_in (List.mem_of_getElem? (i := 41) (by decide +kernel)) rfl, by decide +kernel⟩
theorem xin4 : ∀ w ∈ u_ws RX4 TX4 13, w ∈ xTB := by
  have h : (u_ws RX4 TX4 13).all (fun w => decide (w ∈ lw_tbl) && goodWord w) = true := by decide +kernel
  intro w hw
  have h1 := List.all_eq_true.mp h w hw
  simp only [Bool.and_eq_true, decide_eq_true_eq] at h1
  exact xTB_in h1.1 h1.2
theorem xty4 : ∀ k, k < 13 → (xtc 4 k = 0 ∧ tyX4 k = .int) ∨ (xtc 4 k = 1 ∧ tyX4 k = .long) ∨ (xtc 4 k = 2 ∧ ((∃ D, tyX4 k = .object D) ∨ ∃ D, tyX4 k = .array D)) := fun k hk => match k, hk with
    | 0, _ => Or.inl ⟨by decide +kernel, rfl⟩
    | 1, _ => Or.inl ⟨by decide +kernel, rfl⟩
    | 2, _ => Or.inl ⟨by decide +kernel, rfl⟩
    | 3, _ => Or.inl ⟨by decide +kernel, rfl⟩
    | 4, _ => Or.inl ⟨by decide +kernel, rfl⟩
    | 5, _ => Or.inr (Or.inr ⟨by decide +kernel, Or.inr ⟨_, rfl⟩⟩)
    | 6, _ => Or.inr (Or.inr ⟨by decide +kernel, Or.inr ⟨_, rfl⟩⟩)
    | 7, _ => Or.inr (Or.inr ⟨by decide +kernel, Or.inr ⟨_, rfl⟩⟩)
    | 8, _ => Or.inr (Or.inr ⟨by decide +kernel, Or.inr ⟨_, rfl⟩⟩)
    | 9, _ => Or.inr (Or.inr ⟨by decide +kernel, Or.inr ⟨_, rfl⟩⟩)
    | 10, _ => Or.inr (Or.inr ⟨by decide +kernel, Or.inr ⟨_, rfl⟩⟩)
    | 11, _ => Or.inr (Or.inr ⟨by decide +kernel, Or.inr ⟨_, rfl⟩⟩)
    | 12, _ => Or.inr (Or.inr ⟨by decide +kernel, Or.inr ⟨_, rfl⟩⟩)
    | k + 13, h => absurd h (by omega)
theorem xcl4 : xCl 4 := ⟨RX4, TX4, 13, tyX4, rfl, xin4, tyX4_ok, nmX4, rfl, xty4, rfl, xTB_in (List.mem_of_getElem? (i := 56) (by decide +kernel)) rfl, xTB_in (List.mem_of_getElem? (i := 36) (by decide +kernel)) rfl, by decide +kernel⟩
theorem xin5 : ∀ w ∈ u_ws RX5 TX5 7, w ∈ xTB := by
  have h : (u_ws RX5 TX5 7).all (fun w => decide (w ∈ lw_tbl) && goodWord w) = true := by decide +kernel
  intro w hw
  have h1 := List.all_eq_true.mp h w hw
  simp only [Bool.and_eq_true, decide_eq_true_eq] at h1
  exact xTB_in h1.1 h1.2
theorem xty5 : ∀ k, k < 7 → (xtc 5 k = 0 ∧ tyX5 k = .int) ∨ (xtc 5 k = 1 ∧ tyX5 k = .long) ∨ (xtc 5 k = 2 ∧ ((∃ D, tyX5 k = .object D) ∨ ∃ D, tyX5 k = .array D)) := fun k hk => match k, hk with
    | 0, _ => Or.inr (Or.inr ⟨by decide +kernel, Or.inr ⟨_, rfl⟩⟩)
    | 1, _ => Or.inl ⟨by decide +kernel, rfl⟩
    | 2, _ => Or.inl ⟨by decide +kernel, rfl⟩
    | 3, _ => Or.inr (Or.inr ⟨by decide +kernel, Or.inr ⟨_, rfl⟩⟩)
    | 4, _ => Or.inr (Or.inr ⟨by decide +kernel, Or.inr ⟨_, rfl⟩⟩)
    | 5, _ => Or.inr (Or.inr ⟨by decide +kernel, Or.inr ⟨_, rfl⟩⟩)
    | 6, _ => Or.inr (Or.inr ⟨by decide +kernel, Or.inl ⟨_, rfl⟩⟩)
    | k + 7, h => absurd h (by omega)
theorem xcl5 : xCl 5 := ⟨RX5, TX5, 7, tyX5, rfl, xin5, tyX5_ok, nmX5, rfl, xty5, rfl, xTB_in (List.mem_of_getElem? (i := 206) (by decide +kernel)) rfl, xTB_in (List.mem_of_getElem? (i := 40) (by decide +kernel)) rfl, by decide +kernel⟩
theorem xin6 : ∀ w ∈ u_ws RX6 TX6 3, w ∈ xTB := by
  have h : (u_ws RX6 TX6 3).all (fun w => decide (w ∈ lw_tbl) && goodWord w) = true := by decide +kernel
  intro w hw
  have h1 := List.all_eq_true.mp h w hw
  simp only [Bool.and_eq_true, decide_eq_true_eq] at h1
  exact xTB_in h1.1 h1.2
theorem xty6 : ∀ k, k < 3 → (xtc 6 k = 0 ∧ tyX6 k = .int) ∨ (xtc 6 k = 1 ∧ tyX6 k = .long) ∨ (xtc 6 k = 2 ∧ ((∃ D, tyX6 k = .object D) ∨ ∃ D, tyX6 k = .array D)) := fun k hk => match k, hk with
    | 0, _ => Or.inl ⟨by decide +kernel, rfl⟩
    | 1, _ => Or.inl ⟨by decide +kernel, rfl⟩
    | 2, _ => Or.inr (Or.inr ⟨by decide +kernel, Or.inr ⟨_, rfl⟩⟩)
    | k + 3, h => absurd h (by omega)
theorem xcl6 : xCl 6 := ⟨RX6, TX6, 3, tyX6, rfl, xin6, tyX6_ok, nmX6, rfl, xty6, rfl, xTB_in (List.mem_of_getElem? (i := 151) (by decide +kernel)) rfl, xTB_in (List.mem_of_getElem? (i := 39) (by decide +kernel)) rfl, by decide +kernel⟩
theorem xin7 : ∀ w ∈ u_ws RX7 TX7 2, w ∈ xTB := by
  have h : (u_ws RX7 TX7 2).all (fun w => decide (w ∈ lw_tbl) && goodWord w) = true := by decide +kernel
  intro w hw
  have h1 := List.all_eq_true.mp h w hw
  simp only [Bool.and_eq_true, decide_eq_true_eq] at h1
  exact xTB_in h1.1 h1.2
theorem xty7 : ∀ k, k < 2 → (xtc 7 k = 0 ∧ tyX7 k = .int) ∨ (xtc 7 k = 1 ∧ tyX7 k = .long) ∨ (xtc 7 k = 2 ∧ ((∃ D, tyX7 k = .object D) ∨ ∃ D, tyX7 k = .array D)) := fun k hk => match k, hk with
    | 0, _ => Or.inl ⟨by decide +kernel, rfl⟩
    | 1, _ => Or.inr (Or.inr ⟨by decide +kernel, Or.inr ⟨_, rfl⟩⟩)
    | k + 2, h => absurd h (by omega)
theorem xcl7 : xCl 7 := ⟨RX7, TX7, 2, tyX7, rfl, xin7, tyX7_ok, nmX7, rfl, xty7, rfl, xTB_in (List.mem_of_getElem? (i := 144) (by decide +kernel)) rfl, xTB_in (List.mem_of_getElem? (i := 38) (by decide +kernel)) rfl, by decide +kernel⟩
theorem xin8 : ∀ w ∈ u_ws RX8 TX8 4, w ∈ xTB := by
  have h : (u_ws RX8 TX8 4).all (fun w => decide (w ∈ lw_tbl) && goodWord w) = true := by decide +kernel
  intro w hw
  have h1 := List.all_eq_true.mp h w hw
  simp only [Bool.and_eq_true, decide_eq_true_eq] at h1
  exact xTB_in h1.1 h1.2
theorem xty8 : ∀ k, k < 4 → (xtc 8 k = 0 ∧ tyX8 k = .int) ∨ (xtc 8 k = 1 ∧ tyX8 k = .long) ∨ (xtc 8 k = 2 ∧ ((∃ D, tyX8 k = .object D) ∨ ∃ D, tyX8 k = .array D)) := fun k hk => match k, hk with
    | 0, _ => Or.inr (Or.inr ⟨by decide +kernel, Or.inr ⟨_, rfl⟩⟩)
    | 1, _ => Or.inr (Or.inr ⟨by decide +kernel, Or.inr ⟨_, rfl⟩⟩)
    | 2, _ => Or.inr (Or.inr ⟨by decide +kernel, Or.inr ⟨_, rfl⟩⟩)
    | 3, _ => Or.inl ⟨by decide +kernel, rfl⟩
    | k + 4, h => absurd h (by omega)
theorem xcl8 : xCl 8 := ⟨RX8, TX8, 4, tyX8, rfl, xin8, tyX8_ok, nmX8, rfl, xty8, rfl, xTB_in (List.mem_of_getElem? (i := 137) (by decide +kernel)) rfl, xTB_in (List.mem_of_getElem? (i := 37) (by decide +kernel)) rfl, by decide +kernel⟩
theorem xin9 : ∀ w ∈ u_ws RX9 TX9 10, w ∈ xTB := by
  have h : (u_ws RX9 TX9 10).all (fun w => decide (w ∈ lw_tbl) && goodWord w) = true := by decide +kernel
  intro w hw
  have h1 := List.all_eq_true.mp h w hw
  simp only [Bool.and_eq_true, decide_eq_true_eq] at h1
  exact xTB_in h1.1 h1.2
theorem xty9 : ∀ k, k < 10 → (xtc 9 k = 0 ∧ tyX9 k = .int) ∨ (xtc 9 k = 1 ∧ tyX9 k = .long) ∨ (xtc 9 k = 2 ∧ ((∃ D, tyX9 k = .object D) ∨ ∃ D, tyX9 k = .array D)) := fun k hk => match k, hk with
    | 0, _ => Or.inr (Or.inr ⟨by decide +kernel, Or.inl ⟨_, rfl⟩⟩)
    | 1, _ => Or.inr (Or.inr ⟨by decide +kernel, Or.inl ⟨_, rfl⟩⟩)
    | 2, _ => Or.inr (Or.inr ⟨by decide +kernel, Or.inl ⟨_, rfl⟩⟩)
    | 3, _ => Or.inr (Or.inr ⟨by decide +kernel, Or.inl ⟨_, rfl⟩⟩)
    | 4, _ => Or.inr (Or.inr ⟨by decide +kernel, Or.inl ⟨_, rfl⟩⟩)
    | 5, _ => Or.inr (Or.inr ⟨by decide +kernel, Or.inl ⟨_, rfl⟩⟩)
    | 6, _ => Or.inr (Or.inr ⟨by decide +kernel, Or.inr ⟨_, rfl⟩⟩)
    | 7, _ => Or.inr (Or.inr ⟨by decide +kernel, Or.inl ⟨_, rfl⟩⟩)
    | 8, _ => Or.inr (Or.inr ⟨by decide +kernel, Or.inl ⟨_, rfl⟩⟩)
    | 9, _ => Or.inl ⟨by decide +kernel, rfl⟩
    | k + 10, h => absurd h (by omega)
theorem xcl9 : xCl 9 := ⟨RX9, TX9, 10, tyX9, rfl, xin9, tyX9_ok, nmX9, rfl, xty9, rfl, xTB_in (List.mem_of_getElem? (i := 48) (by decide +kernel)) rfl, xTB_in (List.mem_of_getElem? (i := 35) (by decide +kernel)) rfl, by decide +kernel⟩
theorem xin10 : ∀ w ∈ u_ws RX10 TX10 26, w ∈ xTB := by
  have h : (u_ws RX10 TX10 26).all (fun w => decide (w ∈ lw_tbl) && goodWord w) = true := by decide +kernel
  intro w hw
  have h1 := List.all_eq_true.mp h w hw
  simp only [Bool.and_eq_true, decide_eq_true_eq] at h1
  exact xTB_in h1.1 h1.2
theorem xty10 : ∀ k, k < 26 → (xtc 10 k = 0 ∧ tyX10 k = .int) ∨ (xtc 10 k = 1 ∧ tyX10 k = .long) ∨ (xtc 10 k = 2 ∧ ((∃ D, tyX10 k = .object D) ∨ ∃ D, tyX10 k = .array D)) := fun k hk => match k, hk with
    | 0, _ => Or.inl ⟨by decide +kernel, rfl⟩
    | 1, _ => Or.inl ⟨by decide +kernel, rfl⟩
    | 2, _ => Or.inl ⟨by decide +kernel, rfl⟩
    | 3, _ => Or.inr (Or.inr ⟨by decide +kernel, Or.inr ⟨_, rfl⟩⟩)
    | 4, _ => Or.inr (Or.inr ⟨by decide +kernel, Or.inr ⟨_, rfl⟩⟩)
    | 5, _ => Or.inr (Or.inr ⟨by decide +kernel, Or.inr ⟨_, rfl⟩⟩)
    | 6, _ => Or.inr (Or.inr ⟨by decide +kernel, Or.inr ⟨_, rfl⟩⟩)
    | 7, _ => Or.inl ⟨by decide +kernel, rfl⟩
    | 8, _ => Or.inr (Or.inr ⟨by decide +kernel, Or.inr ⟨_, rfl⟩⟩)
    | 9, _ => Or.inr (Or.inr ⟨by decide +kernel, Or.inr ⟨_, rfl⟩⟩)
    | 10, _ => Or.inr (Or.inr ⟨by decide +kernel, Or.inr ⟨_, rfl⟩⟩)
    | 11, _ => Or.inr (Or.inr ⟨by decide +kernel, Or.inr ⟨_, rfl⟩⟩)
    | 12, _ => Or.inr (Or.inr ⟨by decide +kernel, Or.inr ⟨_, rfl⟩⟩)
    | 13, _ => Or.inr (Or.inr ⟨by decide +kernel, Or.inr ⟨_, rfl⟩⟩)
    | 14, _ => Or.inr (Or.inr ⟨by decide +kernel, Or.inr ⟨_, rfl⟩⟩)
    | 15, _ => Or.inr (Or.inr ⟨by decide +kernel, Or.inr ⟨_, rfl⟩⟩)
    | 16, _ => Or.inr (Or.inr ⟨by decide +kernel, Or.inr ⟨_, rfl⟩⟩)
    | 17, _ => Or.inr (Or.inr ⟨by decide +kernel, Or.inr ⟨_, rfl⟩⟩)
    | 18, _ => Or.inr (Or.inr ⟨by decide +kernel, Or.inr ⟨_, rfl⟩⟩)
    | 19, _ => Or.inr (Or.inr ⟨by decide +kernel, Or.inr ⟨_, rfl⟩⟩)
    | 20, _ => Or.inl ⟨by decide +kernel, rfl⟩
    | 21, _ => Or.inl ⟨by decide +kernel, rfl⟩
    | 22, _ => Or.inr (Or.inr ⟨by decide +kernel, Or.inr ⟨_, rfl⟩⟩)
    | 23, _ => Or.inr (Or.inr ⟨by decide +kernel, Or.inr ⟨_, rfl⟩⟩)
    | 24, _ => Or.inr (Or.inr ⟨by decide +kernel, Or.inr ⟨_, rfl⟩⟩)
    | 25, _ => Or.inr (Or.inr ⟨by decide +kernel, Or.inr ⟨_, rfl⟩⟩)
    | k + 26, h => absurd h (by omega)
theorem xcl10 : xCl 10 := ⟨RX10, TX10, 26, tyX10, rfl, xin10, tyX10_ok, nmX10, rfl, xty10, rfl, xTB_in (List.mem_of_getElem? (i := 636) (by decide +kernel)) rfl, xTB_in (List.mem_of_getElem? (i := 45) (by decide +kernel)) rfl, by decide +kernel⟩
theorem xcls : ∀ i, i < 11 → xCl i := fun i hi => match i, hi with
  | 0, _ => xcl0
  | 1, _ => xcl1
  | 2, _ => xcl2
  | 3, _ => xcl3
  | 4, _ => xcl4
  | 5, _ => xcl5
  | 6, _ => xcl6
  | 7, _ => xcl7
  | 8, _ => xcl8
  | 9, _ => xcl9
  | 10, _ => xcl10
  | i + 11, h => absurd h (by omega)
def xFL (q : Nat × Nat × Nat × Nat) : Prop := q.2.2.1 < 11 ∧ q.2.2.2 < (xtcs.getD q.2.2.1 []).length ∧ ∀ r : vw_C, vwCl[q.2.2.1]? = some r → Cond.fieldLink (xnm q.1) q.2.1 r.1 (r.2.1 q.2.2.2).2.1 (r.2.1 q.2.2.2).2.2.1 ∈ xTB
theorem xfl0 : xFL (9, 65, 4, 0) := ⟨by decide, by decide, fun r h => by cases h; exact xTB_in (List.mem_of_getElem? (i := 61) (by decide +kernel)) rfl⟩
theorem xfl1 : xFL (4, 36, 4, 0) := ⟨by decide, by decide, fun r h => by cases h; exact xTB_in (List.mem_of_getElem? (i := 62) (by decide +kernel)) rfl⟩
theorem xfl2 : xFL (1, 21, 4, 1) := ⟨by decide, by decide, fun r h => by cases h; exact xTB_in (List.mem_of_getElem? (i := 63) (by decide +kernel)) rfl⟩
theorem xfl3 : xFL (4, 44, 4, 1) := ⟨by decide, by decide, fun r h => by cases h; exact xTB_in (List.mem_of_getElem? (i := 64) (by decide +kernel)) rfl⟩
theorem xfl4 : xFL (0, 62, 4, 1) := ⟨by decide, by decide, fun r h => by cases h; exact xTB_in (List.mem_of_getElem? (i := 65) (by decide +kernel)) rfl⟩
theorem xfl5 : xFL (9, 79, 4, 1) := ⟨by decide, by decide, fun r h => by cases h; exact xTB_in (List.mem_of_getElem? (i := 66) (by decide +kernel)) rfl⟩
theorem xfl6 : xFL (8, 52, 4, 1) := ⟨by decide, by decide, fun r h => by cases h; exact xTB_in (List.mem_of_getElem? (i := 67) (by decide +kernel)) rfl⟩
theorem xfl7 : xFL (5, 49, 4, 1) := ⟨by decide, by decide, fun r h => by cases h; exact xTB_in (List.mem_of_getElem? (i := 68) (by decide +kernel)) rfl⟩
theorem xfl8 : xFL (8, 32, 4, 2) := ⟨by decide, by decide, fun r h => by cases h; exact xTB_in (List.mem_of_getElem? (i := 69) (by decide +kernel)) rfl⟩
theorem xfl9 : xFL (0, 40, 4, 2) := ⟨by decide, by decide, fun r h => by cases h; exact xTB_in (List.mem_of_getElem? (i := 70) (by decide +kernel)) rfl⟩
theorem xfl10 : xFL (4, 47, 4, 2) := ⟨by decide, by decide, fun r h => by cases h; exact xTB_in (List.mem_of_getElem? (i := 71) (by decide +kernel)) rfl⟩
theorem xfl11 : xFL (3, 27, 4, 2) := ⟨by decide, by decide, fun r h => by cases h; exact xTB_in (List.mem_of_getElem? (i := 72) (by decide +kernel)) rfl⟩
theorem xfl12 : xFL (5, 57, 4, 2) := ⟨by decide, by decide, fun r h => by cases h; exact xTB_in (List.mem_of_getElem? (i := 73) (by decide +kernel)) rfl⟩
theorem xfl13 : xFL (9, 99, 4, 2) := ⟨by decide, by decide, fun r h => by cases h; exact xTB_in (List.mem_of_getElem? (i := 74) (by decide +kernel)) rfl⟩
theorem xfl14 : xFL (0, 37, 4, 3) := ⟨by decide, by decide, fun r h => by cases h; exact xTB_in (List.mem_of_getElem? (i := 75) (by decide +kernel)) rfl⟩
theorem xfl15 : xFL (9, 68, 4, 3) := ⟨by decide, by decide, fun r h => by cases h; exact xTB_in (List.mem_of_getElem? (i := 76) (by decide +kernel)) rfl⟩
theorem xfl16 : xFL (4, 50, 4, 3) := ⟨by decide, by decide, fun r h => by cases h; exact xTB_in (List.mem_of_getElem? (i := 77) (by decide +kernel)) rfl⟩
theorem xfl17 : xFL (8, 29, 4, 4) := ⟨by decide, by decide, fun r h => by cases h; exact xTB_in (List.mem_of_getElem? (i := 78) (by decide +kernel)) rfl⟩
theorem xfl18 : xFL (4, 53, 4, 4) := ⟨by decide, by decide, fun r h => by cases h; exact xTB_in (List.mem_of_getElem? (i := 79) (by decide +kernel)) rfl⟩
theorem xfl19 : xFL (9, 96, 4, 4) := ⟨by decide, by decide, fun r h => by cases h; exact xTB_in (List.mem_of_getElem? (i := 80) (by decide +kernel)) rfl⟩
theorem xfl20 : xFL (4, 9, 4, 5) := ⟨by decide, by decide, fun r h => by cases h; exact xTB_in (List.mem_of_getElem? (i := 81) (by decide +kernel)) rfl⟩
theorem xfl21 : xFL (8, 61, 4, 5) := ⟨by decide, by decide, fun r h => by cases h; exact xTB_in (List.mem_of_getElem? (i := 82) (by decide +kernel)) rfl⟩
theorem xfl22 : xFL (1, 52, 4, 5) := ⟨by decide, by decide, fun r h => by cases h; exact xTB_in (List.mem_of_getElem? (i := 83) (by decide +kernel)) rfl⟩
theorem xfl23 : xFL (4, 15, 4, 6) := ⟨by decide, by decide, fun r h => by cases h; exact xTB_in (List.mem_of_getElem? (i := 84) (by decide +kernel)) rfl⟩
theorem xfl24 : xFL (8, 58, 4, 6) := ⟨by decide, by decide, fun r h => by cases h; exact xTB_in (List.mem_of_getElem? (i := 85) (by decide +kernel)) rfl⟩
theorem xfl25 : xFL (1, 55, 4, 6) := ⟨by decide, by decide, fun r h => by cases h; exact xTB_in (List.mem_of_getElem? (i := 86) (by decide +kernel)) rfl⟩
theorem xfl26 : xFL (4, 18, 4, 7) := ⟨by decide, by decide, fun r h => by cases h; exact xTB_in (List.mem_of_getElem? (i := 87) (by decide +kernel)) rfl⟩
theorem xfl27 : xFL (1, 27, 4, 7) := ⟨by decide, by decide, fun r h => by cases h; exact xTB_in (List.mem_of_getElem? (i := 88) (by decide +kernel)) rfl⟩
theorem xfl28 : xFL (5, 54, 4, 7) := ⟨by decide, by decide, fun r h => by cases h; exact xTB_in (List.mem_of_getElem? (i := 89) (by decide +kernel)) rfl⟩
theorem xfl29 : xFL (9, 90, 4, 7) := ⟨by decide, by decide, fun r h => by cases h; exact xTB_in (List.mem_of_getElem? (i := 90) (by decide +kernel)) rfl⟩
theorem xfl30 : xFL (0, 98, 4, 7) := ⟨by decide, by decide, fun r h => by cases h; exact xTB_in (List.mem_of_getElem? (i := 91) (by decide +kernel)) rfl⟩
theorem xfl31 : xFL (4, 21, 4, 8) := ⟨by decide, by decide, fun r h => by cases h; exact xTB_in (List.mem_of_getElem? (i := 92) (by decide +kernel)) rfl⟩
theorem xfl32 : xFL (8, 55, 4, 8) := ⟨by decide, by decide, fun r h => by cases h; exact xTB_in (List.mem_of_getElem? (i := 93) (by decide +kernel)) rfl⟩
theorem xfl33 : xFL (9, 93, 4, 8) := ⟨by decide, by decide, fun r h => by cases h; exact xTB_in (List.mem_of_getElem? (i := 94) (by decide +kernel)) rfl⟩
theorem xfl34 : xFL (4, 24, 4, 9) := ⟨by decide, by decide, fun r h => by cases h; exact xTB_in (List.mem_of_getElem? (i := 95) (by decide +kernel)) rfl⟩
theorem xfl35 : xFL (8, 45, 4, 9) := ⟨by decide, by decide, fun r h => by cases h; exact xTB_in (List.mem_of_getElem? (i := 96) (by decide +kernel)) rfl⟩
theorem xfl36 : xFL (9, 201, 4, 9) := ⟨by decide, by decide, fun r h => by cases h; exact xTB_in (List.mem_of_getElem? (i := 97) (by decide +kernel)) rfl⟩
theorem xfl37 : xFL (4, 27, 4, 10) := ⟨by decide, by decide, fun r h => by cases h; exact xTB_in (List.mem_of_getElem? (i := 98) (by decide +kernel)) rfl⟩
theorem xfl38 : xFL (8, 38, 4, 10) := ⟨by decide, by decide, fun r h => by cases h; exact xTB_in (List.mem_of_getElem? (i := 99) (by decide +kernel)) rfl⟩
theorem xfl39 : xFL (9, 204, 4, 10) := ⟨by decide, by decide, fun r h => by cases h; exact xTB_in (List.mem_of_getElem? (i := 100) (by decide +kernel)) rfl⟩
theorem xfl40 : xFL (4, 30, 4, 11) := ⟨by decide, by decide, fun r h => by cases h; exact xTB_in (List.mem_of_getElem? (i := 101) (by decide +kernel)) rfl⟩
theorem xfl41 : xFL (3, 48, 4, 11) := ⟨by decide, by decide, fun r h => by cases h; exact xTB_in (List.mem_of_getElem? (i := 102) (by decide +kernel)) rfl⟩
theorem xfl42 : xFL (5, 86, 4, 11) := ⟨by decide, by decide, fun r h => by cases h; exact xTB_in (List.mem_of_getElem? (i := 103) (by decide +kernel)) rfl⟩
theorem xfl43 : xFL (9, 108, 4, 11) := ⟨by decide, by decide, fun r h => by cases h; exact xTB_in (List.mem_of_getElem? (i := 104) (by decide +kernel)) rfl⟩
theorem xfl44 : xFL (4, 33, 4, 12) := ⟨by decide, by decide, fun r h => by cases h; exact xTB_in (List.mem_of_getElem? (i := 105) (by decide +kernel)) rfl⟩
theorem xfl45 : xFL (5, 71, 4, 12) := ⟨by decide, by decide, fun r h => by cases h; exact xTB_in (List.mem_of_getElem? (i := 106) (by decide +kernel)) rfl⟩
theorem xfl46 : xFL (9, 111, 4, 12) := ⟨by decide, by decide, fun r h => by cases h; exact xTB_in (List.mem_of_getElem? (i := 107) (by decide +kernel)) rfl⟩
theorem xfl47 : xFL (6, 15, 6, 0) := ⟨by decide, by decide, fun r h => by cases h; exact xTB_in (List.mem_of_getElem? (i := 156) (by decide +kernel)) rfl⟩
theorem xfl48 : xFL (3, 15, 6, 0) := ⟨by decide, by decide, fun r h => by cases h; exact xTB_in (List.mem_of_getElem? (i := 157) (by decide +kernel)) rfl⟩
theorem xfl49 : xFL (9, 134, 6, 0) := ⟨by decide, by decide, fun r h => by cases h; exact xTB_in (List.mem_of_getElem? (i := 158) (by decide +kernel)) rfl⟩
theorem xfl50 : xFL (6, 19, 6, 1) := ⟨by decide, by decide, fun r h => by cases h; exact xTB_in (List.mem_of_getElem? (i := 159) (by decide +kernel)) rfl⟩
theorem xfl51 : xFL (7, 22, 6, 1) := ⟨by decide, by decide, fun r h => by cases h; exact xTB_in (List.mem_of_getElem? (i := 160) (by decide +kernel)) rfl⟩
theorem xfl52 : xFL (5, 104, 6, 1) := ⟨by decide, by decide, fun r h => by cases h; exact xTB_in (List.mem_of_getElem? (i := 161) (by decide +kernel)) rfl⟩
theorem xfl53 : xFL (9, 139, 6, 1) := ⟨by decide, by decide, fun r h => by cases h; exact xTB_in (List.mem_of_getElem? (i := 162) (by decide +kernel)) rfl⟩
theorem xfl54 : xFL (6, 9, 6, 2) := ⟨by decide, by decide, fun r h => by cases h; exact xTB_in (List.mem_of_getElem? (i := 163) (by decide +kernel)) rfl⟩
theorem xfl55 : xFL (3, 21, 6, 2) := ⟨by decide, by decide, fun r h => by cases h; exact xTB_in (List.mem_of_getElem? (i := 164) (by decide +kernel)) rfl⟩
theorem xfl56 : xFL (9, 142, 6, 2) := ⟨by decide, by decide, fun r h => by cases h; exact xTB_in (List.mem_of_getElem? (i := 165) (by decide +kernel)) rfl⟩
theorem xfl57 : xFL (7, 18, 7, 0) := ⟨by decide, by decide, fun r h => by cases h; exact xTB_in (List.mem_of_getElem? (i := 173) (by decide +kernel)) rfl⟩
theorem xfl58 : xFL (8, 35, 7, 0) := ⟨by decide, by decide, fun r h => by cases h; exact xTB_in (List.mem_of_getElem? (i := 174) (by decide +kernel)) rfl⟩
theorem xfl59 : xFL (0, 49, 7, 0) := ⟨by decide, by decide, fun r h => by cases h; exact xTB_in (List.mem_of_getElem? (i := 175) (by decide +kernel)) rfl⟩
theorem xfl60 : xFL (5, 66, 7, 0) := ⟨by decide, by decide, fun r h => by cases h; exact xTB_in (List.mem_of_getElem? (i := 176) (by decide +kernel)) rfl⟩
theorem xfl61 : xFL (9, 122, 7, 0) := ⟨by decide, by decide, fun r h => by cases h; exact xTB_in (List.mem_of_getElem? (i := 177) (by decide +kernel)) rfl⟩
theorem xfl62 : xFL (7, 11, 7, 1) := ⟨by decide, by decide, fun r h => by cases h; exact xTB_in (List.mem_of_getElem? (i := 178) (by decide +kernel)) rfl⟩
theorem xfl63 : xFL (0, 88, 7, 1) := ⟨by decide, by decide, fun r h => by cases h; exact xTB_in (List.mem_of_getElem? (i := 179) (by decide +kernel)) rfl⟩
theorem xfl64 : xFL (3, 44, 7, 1) := ⟨by decide, by decide, fun r h => by cases h; exact xTB_in (List.mem_of_getElem? (i := 180) (by decide +kernel)) rfl⟩
theorem xfl65 : xFL (5, 82, 7, 1) := ⟨by decide, by decide, fun r h => by cases h; exact xTB_in (List.mem_of_getElem? (i := 181) (by decide +kernel)) rfl⟩
theorem xfl66 : xFL (9, 130, 7, 1) := ⟨by decide, by decide, fun r h => by cases h; exact xTB_in (List.mem_of_getElem? (i := 182) (by decide +kernel)) rfl⟩
theorem xfl67 : xFL (8, 11, 8, 0) := ⟨by decide, by decide, fun r h => by cases h; exact xTB_in (List.mem_of_getElem? (i := 188) (by decide +kernel)) rfl⟩
theorem xfl68 : xFL (0, 43, 8, 0) := ⟨by decide, by decide, fun r h => by cases h; exact xTB_in (List.mem_of_getElem? (i := 189) (by decide +kernel)) rfl⟩
theorem xfl69 : xFL (3, 32, 8, 0) := ⟨by decide, by decide, fun r h => by cases h; exact xTB_in (List.mem_of_getElem? (i := 190) (by decide +kernel)) rfl⟩
theorem xfl70 : xFL (5, 60, 8, 0) := ⟨by decide, by decide, fun r h => by cases h; exact xTB_in (List.mem_of_getElem? (i := 191) (by decide +kernel)) rfl⟩
theorem xfl71 : xFL (9, 118, 8, 0) := ⟨by decide, by decide, fun r h => by cases h; exact xTB_in (List.mem_of_getElem? (i := 192) (by decide +kernel)) rfl⟩
theorem xfl72 : xFL (8, 17, 8, 1) := ⟨by decide, by decide, fun r h => by cases h; exact xTB_in (List.mem_of_getElem? (i := 193) (by decide +kernel)) rfl⟩
theorem xfl73 : xFL (8, 21, 8, 2) := ⟨by decide, by decide, fun r h => by cases h; exact xTB_in (List.mem_of_getElem? (i := 194) (by decide +kernel)) rfl⟩
theorem xfl74 : xFL (8, 24, 8, 3) := ⟨by decide, by decide, fun r h => by cases h; exact xTB_in (List.mem_of_getElem? (i := 195) (by decide +kernel)) rfl⟩
theorem xfl75 : xFL (3, 9, 3, 0) := ⟨by decide, by decide, fun r h => by cases h; exact xTB_in (List.mem_of_getElem? (i := 217) (by decide +kernel)) rfl⟩
theorem xfl76 : xFL (1, 30, 3, 0) := ⟨by decide, by decide, fun r h => by cases h; exact xTB_in (List.mem_of_getElem? (i := 218) (by decide +kernel)) rfl⟩
theorem xfl77 : xFL (9, 156, 3, 0) := ⟨by decide, by decide, fun r h => by cases h; exact xTB_in (List.mem_of_getElem? (i := 219) (by decide +kernel)) rfl⟩
theorem xfl78 : xFL (5, 9, 5, 0) := ⟨by decide, by decide, fun r h => by cases h; exact xTB_in (List.mem_of_getElem? (i := 223) (by decide +kernel)) rfl⟩
theorem xfl79 : xFL (9, 153, 5, 0) := ⟨by decide, by decide, fun r h => by cases h; exact xTB_in (List.mem_of_getElem? (i := 224) (by decide +kernel)) rfl⟩
theorem xfl80 : xFL (5, 35, 5, 1) := ⟨by decide, by decide, fun r h => by cases h; exact xTB_in (List.mem_of_getElem? (i := 225) (by decide +kernel)) rfl⟩
theorem xfl81 : xFL (9, 147, 5, 1) := ⟨by decide, by decide, fun r h => by cases h; exact xTB_in (List.mem_of_getElem? (i := 226) (by decide +kernel)) rfl⟩
theorem xfl82 : xFL (5, 39, 5, 2) := ⟨by decide, by decide, fun r h => by cases h; exact xTB_in (List.mem_of_getElem? (i := 227) (by decide +kernel)) rfl⟩
theorem xfl83 : xFL (9, 150, 5, 2) := ⟨by decide, by decide, fun r h => by cases h; exact xTB_in (List.mem_of_getElem? (i := 228) (by decide +kernel)) rfl⟩
theorem xfl84 : xFL (5, 15, 5, 3) := ⟨by decide, by decide, fun r h => by cases h; exact xTB_in (List.mem_of_getElem? (i := 229) (by decide +kernel)) rfl⟩
theorem xfl85 : xFL (5, 18, 5, 4) := ⟨by decide, by decide, fun r h => by cases h; exact xTB_in (List.mem_of_getElem? (i := 230) (by decide +kernel)) rfl⟩
theorem xfl86 : xFL (5, 21, 5, 5) := ⟨by decide, by decide, fun r h => by cases h; exact xTB_in (List.mem_of_getElem? (i := 231) (by decide +kernel)) rfl⟩
theorem xfl87 : xFL (5, 27, 5, 6) := ⟨by decide, by decide, fun r h => by cases h; exact xTB_in (List.mem_of_getElem? (i := 232) (by decide +kernel)) rfl⟩
theorem xfl88 : xFL (2, 17, 2, 0) := ⟨by decide, by decide, fun r h => by cases h; exact xTB_in (List.mem_of_getElem? (i := 263) (by decide +kernel)) rfl⟩
theorem xfl89 : xFL (0, 77, 2, 0) := ⟨by decide, by decide, fun r h => by cases h; exact xTB_in (List.mem_of_getElem? (i := 264) (by decide +kernel)) rfl⟩
theorem xfl90 : xFL (9, 192, 2, 0) := ⟨by decide, by decide, fun r h => by cases h; exact xTB_in (List.mem_of_getElem? (i := 265) (by decide +kernel)) rfl⟩
theorem xfl91 : xFL (2, 7, 2, 1) := ⟨by decide, by decide, fun r h => by cases h; exact xTB_in (List.mem_of_getElem? (i := 266) (by decide +kernel)) rfl⟩
theorem xfl92 : xFL (0, 81, 2, 1) := ⟨by decide, by decide, fun r h => by cases h; exact xTB_in (List.mem_of_getElem? (i := 267) (by decide +kernel)) rfl⟩
theorem xfl93 : xFL (9, 198, 2, 1) := ⟨by decide, by decide, fun r h => by cases h; exact xTB_in (List.mem_of_getElem? (i := 268) (by decide +kernel)) rfl⟩
theorem xfl94 : xFL (0, 11, 0, 0) := ⟨by decide, by decide, fun r h => by cases h; exact xTB_in (List.mem_of_getElem? (i := 275) (by decide +kernel)) rfl⟩
theorem xfl95 : xFL (9, 188, 0, 0) := ⟨by decide, by decide, fun r h => by cases h; exact xTB_in (List.mem_of_getElem? (i := 276) (by decide +kernel)) rfl⟩
theorem xfl96 : xFL (0, 17, 0, 1) := ⟨by decide, by decide, fun r h => by cases h; exact xTB_in (List.mem_of_getElem? (i := 277) (by decide +kernel)) rfl⟩
theorem xfl97 : xFL (9, 185, 0, 1) := ⟨by decide, by decide, fun r h => by cases h; exact xTB_in (List.mem_of_getElem? (i := 278) (by decide +kernel)) rfl⟩
theorem xfl98 : xFL (0, 21, 0, 2) := ⟨by decide, by decide, fun r h => by cases h; exact xTB_in (List.mem_of_getElem? (i := 279) (by decide +kernel)) rfl⟩
theorem xfl99 : xFL (0, 26, 0, 3) := ⟨by decide, by decide, fun r h => by cases h; exact xTB_in (List.mem_of_getElem? (i := 280) (by decide +kernel)) rfl⟩
theorem xfl100 : xFL (0, 30, 0, 4) := ⟨by decide, by decide, fun r h => by cases h; exact xTB_in (List.mem_of_getElem? (i := 281) (by decide +kernel)) rfl⟩
theorem xfl101 : xFL (0, 33, 0, 5) := ⟨by decide, by decide, fun r h => by cases h; exact xTB_in (List.mem_of_getElem? (i := 282) (by decide +kernel)) rfl⟩
theorem xfl102 : xFL (1, 9, 1, 0) := ⟨by decide, by decide, fun r h => by cases h; exact xTB_in (List.mem_of_getElem? (i := 302) (by decide +kernel)) rfl⟩
theorem xfl103 : xFL (1, 15, 1, 1) := ⟨by decide, by decide, fun r h => by cases h; exact xTB_in (List.mem_of_getElem? (i := 303) (by decide +kernel)) rfl⟩
theorem xfl104 : xFL (1, 18, 1, 2) := ⟨by decide, by decide, fun r h => by cases h; exact xTB_in (List.mem_of_getElem? (i := 304) (by decide +kernel)) rfl⟩
theorem xfl105 : xFL (9, 12, 9, 0) := ⟨by decide, by decide, fun r h => by cases h; exact xTB_in (List.mem_of_getElem? (i := 312) (by decide +kernel)) rfl⟩
theorem xfl106 : xFL (9, 19, 9, 1) := ⟨by decide, by decide, fun r h => by cases h; exact xTB_in (List.mem_of_getElem? (i := 313) (by decide +kernel)) rfl⟩
theorem xfl107 : xFL (9, 26, 9, 2) := ⟨by decide, by decide, fun r h => by cases h; exact xTB_in (List.mem_of_getElem? (i := 314) (by decide +kernel)) rfl⟩
theorem xfl108 : xFL (9, 30, 9, 3) := ⟨by decide, by decide, fun r h => by cases h; exact xTB_in (List.mem_of_getElem? (i := 315) (by decide +kernel)) rfl⟩
theorem xfl109 : xFL (9, 36, 9, 4) := ⟨by decide, by decide, fun r h => by cases h; exact xTB_in (List.mem_of_getElem? (i := 316) (by decide +kernel)) rfl⟩
theorem xfl110 : xFL (9, 40, 9, 5) := ⟨by decide, by decide, fun r h => by cases h; exact xTB_in (List.mem_of_getElem? (i := 317) (by decide +kernel)) rfl⟩
theorem xfl111 : xFL (9, 43, 9, 6) := ⟨by decide, by decide, fun r h => by cases h; exact xTB_in (List.mem_of_getElem? (i := 318) (by decide +kernel)) rfl⟩
theorem xfl112 : xFL (9, 50, 9, 7) := ⟨by decide, by decide, fun r h => by cases h; exact xTB_in (List.mem_of_getElem? (i := 319) (by decide +kernel)) rfl⟩
theorem xfl113 : xFL (9, 57, 9, 8) := ⟨by decide, by decide, fun r h => by cases h; exact xTB_in (List.mem_of_getElem? (i := 320) (by decide +kernel)) rfl⟩
theorem xfl114 : xFL (9, 61, 9, 9) := ⟨by decide, by decide, fun r h => by cases h; exact xTB_in (List.mem_of_getElem? (i := 321) (by decide +kernel)) rfl⟩
theorem xfl115 : xFL (10, 1, 10, 0) := ⟨by decide, by decide, fun r h => by cases h; exact xTB_in (List.mem_of_getElem? (i := 641) (by decide +kernel)) rfl⟩
theorem xfl116 : xFL (10, 75, 10, 1) := ⟨by decide, by decide, fun r h => by cases h; exact xTB_in (List.mem_of_getElem? (i := 642) (by decide +kernel)) rfl⟩
theorem xfl117 : xFL (10, 82, 10, 2) := ⟨by decide, by decide, fun r h => by cases h; exact xTB_in (List.mem_of_getElem? (i := 643) (by decide +kernel)) rfl⟩
theorem xfl118 : xFL (10, 13, 10, 3) := ⟨by decide, by decide, fun r h => by cases h; exact xTB_in (List.mem_of_getElem? (i := 644) (by decide +kernel)) rfl⟩
theorem xfl119 : xFL (10, 17, 10, 4) := ⟨by decide, by decide, fun r h => by cases h; exact xTB_in (List.mem_of_getElem? (i := 645) (by decide +kernel)) rfl⟩
theorem xfl120 : xFL (10, 20, 10, 5) := ⟨by decide, by decide, fun r h => by cases h; exact xTB_in (List.mem_of_getElem? (i := 646) (by decide +kernel)) rfl⟩
theorem xfl121 : xFL (10, 23, 10, 6) := ⟨by decide, by decide, fun r h => by cases h; exact xTB_in (List.mem_of_getElem? (i := 647) (by decide +kernel)) rfl⟩
theorem xfl122 : xFL (10, 85, 10, 7) := ⟨by decide, by decide, fun r h => by cases h; exact xTB_in (List.mem_of_getElem? (i := 648) (by decide +kernel)) rfl⟩
theorem xfl123 : xFL (10, 26, 10, 8) := ⟨by decide, by decide, fun r h => by cases h; exact xTB_in (List.mem_of_getElem? (i := 649) (by decide +kernel)) rfl⟩
theorem xfl124 : xFL (10, 29, 10, 9) := ⟨by decide, by decide, fun r h => by cases h; exact xTB_in (List.mem_of_getElem? (i := 650) (by decide +kernel)) rfl⟩
theorem xfl125 : xFL (10, 32, 10, 10) := ⟨by decide, by decide, fun r h => by cases h; exact xTB_in (List.mem_of_getElem? (i := 651) (by decide +kernel)) rfl⟩
theorem xfl126 : xFL (10, 35, 10, 11) := ⟨by decide, by decide, fun r h => by cases h; exact xTB_in (List.mem_of_getElem? (i := 652) (by decide +kernel)) rfl⟩
theorem xfl127 : xFL (10, 38, 10, 12) := ⟨by decide, by decide, fun r h => by cases h; exact xTB_in (List.mem_of_getElem? (i := 653) (by decide +kernel)) rfl⟩
theorem xfl128 : xFL (10, 41, 10, 13) := ⟨by decide, by decide, fun r h => by cases h; exact xTB_in (List.mem_of_getElem? (i := 654) (by decide +kernel)) rfl⟩
theorem xfl129 : xFL (10, 44, 10, 14) := ⟨by decide, by decide, fun r h => by cases h; exact xTB_in (List.mem_of_getElem? (i := 655) (by decide +kernel)) rfl⟩
theorem xfl130 : xFL (10, 47, 10, 15) := ⟨by decide, by decide, fun r h => by cases h; exact xTB_in (List.mem_of_getElem? (i := 656) (by decide +kernel)) rfl⟩
theorem xfl131 : xFL (10, 50, 10, 16) := ⟨by decide, by decide, fun r h => by cases h; exact xTB_in (List.mem_of_getElem? (i := 657) (by decide +kernel)) rfl⟩
theorem xfl132 : xFL (10, 53, 10, 17) := ⟨by decide, by decide, fun r h => by cases h; exact xTB_in (List.mem_of_getElem? (i := 658) (by decide +kernel)) rfl⟩
theorem xfl133 : xFL (10, 56, 10, 18) := ⟨by decide, by decide, fun r h => by cases h; exact xTB_in (List.mem_of_getElem? (i := 659) (by decide +kernel)) rfl⟩
theorem xfl134 : xFL (10, 59, 10, 19) := ⟨by decide, by decide, fun r h => by cases h; exact xTB_in (List.mem_of_getElem? (i := 660) (by decide +kernel)) rfl⟩
theorem xfl135 : xFL (10, 112, 10, 20) := ⟨by decide, by decide, fun r h => by cases h; exact xTB_in (List.mem_of_getElem? (i := 661) (by decide +kernel)) rfl⟩
theorem xfl136 : xFL (10, 115, 10, 21) := ⟨by decide, by decide, fun r h => by cases h; exact xTB_in (List.mem_of_getElem? (i := 662) (by decide +kernel)) rfl⟩
theorem xfl137 : xFL (10, 62, 10, 22) := ⟨by decide, by decide, fun r h => by cases h; exact xTB_in (List.mem_of_getElem? (i := 663) (by decide +kernel)) rfl⟩
theorem xfl138 : xFL (10, 65, 10, 23) := ⟨by decide, by decide, fun r h => by cases h; exact xTB_in (List.mem_of_getElem? (i := 664) (by decide +kernel)) rfl⟩
theorem xfl139 : xFL (10, 69, 10, 24) := ⟨by decide, by decide, fun r h => by cases h; exact xTB_in (List.mem_of_getElem? (i := 665) (by decide +kernel)) rfl⟩
theorem xfl140 : xFL (10, 72, 10, 25) := ⟨by decide, by decide, fun r h => by cases h; exact xTB_in (List.mem_of_getElem? (i := 666) (by decide +kernel)) rfl⟩
set_option maxRecDepth 20000 in
theorem xflt_ok : ∀ q ∈ xflt, xFL q := List.forall_mem_cons.mpr ⟨xfl0, List.forall_mem_cons.mpr ⟨xfl1, List.forall_mem_cons.mpr ⟨xfl2, List.forall_mem_cons.mpr ⟨xfl3, List.forall_mem_cons.mpr ⟨xfl4, List.forall_mem_cons.mpr ⟨xfl5, List.forall_mem_cons.mpr ⟨xfl6, List.forall_mem_cons.mpr ⟨xfl7, List.forall_mem_cons.mpr ⟨xfl8, List.forall_mem_cons.mpr ⟨xfl9, List.forall_mem_cons.mpr ⟨xfl10, List.forall_mem_cons.mpr ⟨xfl11, List.forall_mem_cons.mpr ⟨xfl12, List.forall_mem_cons.mpr ⟨xfl13, List.forall_mem_cons.mpr ⟨xfl14, List.forall_mem_cons.mpr ⟨xfl15, List.forall_mem_cons.mpr ⟨xfl16, List.forall_mem_cons.mpr ⟨xfl17, List.forall_mem_cons.mpr ⟨xfl18, List.forall_mem_cons.mpr ⟨xfl19, List.forall_mem_cons.mpr ⟨xfl20, List.forall_mem_cons.mpr ⟨xfl21, List.forall_mem_cons.mpr ⟨xfl22, List.forall_mem_cons.mpr ⟨xfl23, List.forall_mem_cons.mpr ⟨xfl24, List.forall_mem_cons.mpr ⟨xfl25, List.forall_mem_cons.mpr ⟨xfl26, List.forall_mem_cons.mpr ⟨xfl27, List.forall_mem_cons.mpr ⟨xfl28, List.forall_mem_cons.mpr ⟨xfl29, List.forall_mem_cons.mpr ⟨xfl30, List.forall_mem_cons.mpr ⟨xfl31, List.forall_mem_cons.mpr ⟨xfl32, List.forall_mem_cons.mpr ⟨xfl33, List.forall_mem_cons.mpr ⟨xfl34, List.forall_mem_cons.mpr ⟨xfl35, List.forall_mem_cons.mpr ⟨xfl36, List.forall_mem_cons.mpr ⟨xfl37, List.forall_mem_cons.mpr ⟨xfl38, List.forall_mem_cons.mpr ⟨xfl39, List.forall_mem_cons.mpr ⟨xfl40, List.forall_mem_cons.mpr ⟨xfl41, List.forall_mem_cons.mpr ⟨xfl42, List.forall_mem_cons.mpr ⟨xfl43, List.forall_mem_cons.mpr ⟨xfl44, List.forall_mem_cons.mpr ⟨xfl45, List.forall_mem_cons.mpr ⟨xfl46, List.forall_mem_cons.mpr ⟨xfl47, List.forall_mem_cons.mpr ⟨xfl48, List.forall_mem_cons.mpr ⟨xfl49, List.forall_mem_cons.mpr ⟨xfl50, List.forall_mem_cons.mpr ⟨xfl51, List.forall_mem_cons.mpr ⟨xfl52, List.forall_mem_cons.mpr ⟨xfl53, List.forall_mem_cons.mpr ⟨xfl54, List.forall_mem_cons.mpr ⟨xfl55, List.forall_mem_cons.mpr ⟨xfl56, List.forall_mem_cons.mpr ⟨xfl57, List.forall_mem_cons.mpr ⟨xfl58, List.forall_mem_cons.mpr ⟨xfl59, List.forall_mem_cons.mpr ⟨xfl60, List.forall_mem_cons.mpr ⟨xfl61, List.forall_mem_cons.mpr ⟨xfl62, List.forall_mem_cons.mpr ⟨xfl63, List.forall_mem_cons.mpr ⟨xfl64, List.forall_mem_cons.mpr ⟨xfl65, List.forall_mem_cons.mpr ⟨xfl66, List.forall_mem_cons.mpr ⟨xfl67, List.forall_mem_cons.mpr ⟨xfl68, List.forall_mem_cons.mpr ⟨xfl69, List.forall_mem_cons.mpr ⟨xfl70, List.forall_mem_cons.mpr ⟨xfl71, List.forall_mem_cons.mpr ⟨xfl72, List.forall_mem_cons.mpr ⟨xfl73, List.forall_mem_cons.mpr ⟨xfl74, List.forall_mem_cons.mpr ⟨xfl75, List.forall_mem_cons.mpr ⟨xfl76, List.forall_mem_cons.mpr ⟨xfl77, List.forall_mem_cons.mpr ⟨xfl78, List.forall_mem_cons.mpr ⟨xfl79, List.forall_mem_cons.mpr ⟨xfl80, List.forall_mem_cons.mpr ⟨xfl81, List.forall_mem_cons.mpr ⟨xfl82, List.forall_mem_cons.mpr ⟨xfl83, List.forall_mem_cons.mpr ⟨xfl84, List.forall_mem_cons.mpr ⟨xfl85, List.forall_mem_cons.mpr ⟨xfl86, List.forall_mem_cons.mpr ⟨xfl87, List.forall_mem_cons.mpr ⟨xfl88, List.forall_mem_cons.mpr ⟨xfl89, List.forall_mem_cons.mpr ⟨xfl90, List.forall_mem_cons.mpr ⟨xfl91, List.forall_mem_cons.mpr ⟨xfl92, List.forall_mem_cons.mpr ⟨xfl93, List.forall_mem_cons.mpr ⟨xfl94, List.forall_mem_cons.mpr ⟨xfl95, List.forall_mem_cons.mpr ⟨xfl96, List.forall_mem_cons.mpr ⟨xfl97, List.forall_mem_cons.mpr ⟨xfl98, List.forall_mem_cons.mpr ⟨xfl99, List.forall_mem_cons.mpr ⟨xfl100, List.forall_mem_cons.mpr ⟨xfl101, List.forall_mem_cons.mpr ⟨xfl102, List.forall_mem_cons.mpr ⟨xfl103, List.forall_mem_cons.mpr ⟨xfl104, List.forall_mem_cons.mpr ⟨xfl105, List.forall_mem_cons.mpr ⟨xfl106, List.forall_mem_cons.mpr ⟨xfl107, List.forall_mem_cons.mpr ⟨xfl108, List.forall_mem_cons.mpr ⟨xfl109, List.forall_mem_cons.mpr ⟨xfl110, List.forall_mem_cons.mpr ⟨xfl111, List.forall_mem_cons.mpr ⟨xfl112, List.forall_mem_cons.mpr ⟨xfl113, List.forall_mem_cons.mpr ⟨xfl114, List.forall_mem_cons.mpr ⟨xfl115, List.forall_mem_cons.mpr ⟨xfl116, List.forall_mem_cons.mpr ⟨xfl117, List.forall_mem_cons.mpr ⟨xfl118, List.forall_mem_cons.mpr ⟨xfl119, List.forall_mem_cons.mpr ⟨xfl120, List.forall_mem_cons.mpr ⟨xfl121, List.forall_mem_cons.mpr ⟨xfl122, List.forall_mem_cons.mpr ⟨xfl123, List.forall_mem_cons.mpr ⟨xfl124, List.forall_mem_cons.mpr ⟨xfl125, List.forall_mem_cons.mpr ⟨xfl126, List.forall_mem_cons.mpr ⟨xfl127, List.forall_mem_cons.mpr ⟨xfl128, List.forall_mem_cons.mpr ⟨xfl129, List.forall_mem_cons.mpr ⟨xfl130, List.forall_mem_cons.mpr ⟨xfl131, List.forall_mem_cons.mpr ⟨xfl132, List.forall_mem_cons.mpr ⟨xfl133, List.forall_mem_cons.mpr ⟨xfl134, List.forall_mem_cons.mpr ⟨xfl135, List.forall_mem_cons.mpr ⟨xfl136, List.forall_mem_cons.mpr ⟨xfl137, List.forall_mem_cons.mpr ⟨xfl138, List.forall_mem_cons.mpr ⟨xfl139, List.forall_mem_cons.mpr ⟨xfl140, fun _ h => absurd h List.not_mem_nil⟩⟩⟩⟩⟩⟩⟩⟩⟩⟩⟩⟩⟩⟩⟩⟩⟩⟩⟩⟩⟩⟩⟩⟩⟩⟩⟩⟩⟩⟩⟩⟩⟩⟩⟩⟩⟩⟩⟩⟩⟩⟩⟩⟩⟩⟩⟩⟩⟩⟩⟩⟩⟩⟩⟩⟩⟩⟩⟩⟩⟩⟩⟩⟩⟩⟩⟩⟩⟩⟩⟩⟩⟩⟩⟩⟩⟩⟩⟩⟩⟩⟩⟩⟩⟩⟩⟩⟩⟩⟩⟩⟩⟩⟩⟩⟩⟩⟩⟩⟩⟩⟩⟩⟩⟩⟩⟩⟩⟩⟩⟩⟩⟩⟩⟩⟩⟩⟩⟩⟩⟩⟩⟩⟩⟩⟩⟩⟩⟩⟩⟩⟩⟩⟩⟩⟩⟩⟩⟩⟩⟩
def xNW (q : Nat × Nat × Nat) : Prop := q.2.2 < 11 ∧ Cond.classLink (xnm q.1) q.2.1 (xnm q.2.2) ∈ xTB
theorem xnw0 : xNW (9, 9, 4) := ⟨by decide, xTB_in (List.mem_of_getElem? (i := 55) (by decide +kernel)) rfl⟩
theorem xnw1 : xNW (9, 16, 8) := ⟨by decide, xTB_in (List.mem_of_getElem? (i := 136) (by decide +kernel)) rfl⟩
theorem xnw2 : xNW (9, 23, 5) := ⟨by decide, xTB_in (List.mem_of_getElem? (i := 205) (by decide +kernel)) rfl⟩
theorem xnw3 : xNW (9, 33, 3) := ⟨by decide, xTB_in (List.mem_of_getElem? (i := 248) (by decide +kernel)) rfl⟩
theorem xnw4 : xNW (9, 47, 0) := ⟨by decide, xTB_in (List.mem_of_getElem? (i := 250) (by decide +kernel)) rfl⟩
theorem xnw5 : xNW (9, 54, 1) := ⟨by decide, xTB_in (List.mem_of_getElem? (i := 296) (by decide +kernel)) rfl⟩
theorem xnw6 : xNW (0, 9, 2) := ⟨by decide, xTB_in (List.mem_of_getElem? (i := 256) (by decide +kernel)) rfl⟩
theorem xnw7 : xNW (5, 24, 3) := ⟨by decide, xTB_in (List.mem_of_getElem? (i := 211) (by decide +kernel)) rfl⟩
theorem xnw8 : xNW (7, 9, 6) := ⟨by decide, xTB_in (List.mem_of_getElem? (i := 149) (by decide +kernel)) rfl⟩
theorem xnw9 : xNW (8, 9, 7) := ⟨by decide, xTB_in (List.mem_of_getElem? (i := 142) (by decide +kernel)) rfl⟩
theorem xnw10 : xNW (11, 7, 9) := ⟨by decide, xTB_in (List.mem_of_getElem? (i := 47) (by decide +kernel)) rfl⟩
theorem xnw11 : xNW (11, 10, 10) := ⟨by decide, xTB_in (List.mem_of_getElem? (i := 635) (by decide +kernel)) rfl⟩
theorem xnwt_ok : ∀ q ∈ xnwt, xNW q := List.forall_mem_cons.mpr ⟨xnw0, List.forall_mem_cons.mpr ⟨xnw1, List.forall_mem_cons.mpr ⟨xnw2, List.forall_mem_cons.mpr ⟨xnw3, List.forall_mem_cons.mpr ⟨xnw4, List.forall_mem_cons.mpr ⟨xnw5, List.forall_mem_cons.mpr ⟨xnw6, List.forall_mem_cons.mpr ⟨xnw7, List.forall_mem_cons.mpr ⟨xnw8, List.forall_mem_cons.mpr ⟨xnw9, List.forall_mem_cons.mpr ⟨xnw10, List.forall_mem_cons.mpr ⟨xnw11, fun _ h => absurd h List.not_mem_nil⟩⟩⟩⟩⟩⟩⟩⟩⟩⟩⟩⟩
def xelt (k : Nat) : Nat := match k with | 3 => 6 | 4 => 7 | _ => 2
def xAN (q : Nat × Nat × Nat) : Prop := (q.2.2 = 3 ∨ q.2.2 = 4 ∨ q.2.2 = 5) ∧ Cond.classLink (xnm q.1) q.2.1 (xnm (xelt q.2.2)) ∈ xTB
theorem xan0 : xAN (0, 9, 5) := ⟨by decide, xTB_in (List.mem_of_getElem? (i := 256) (by decide +kernel)) rfl⟩
theorem xan1 : xAN (7, 9, 3) := ⟨by decide, xTB_in (List.mem_of_getElem? (i := 149) (by decide +kernel)) rfl⟩
theorem xan2 : xAN (8, 9, 4) := ⟨by decide, xTB_in (List.mem_of_getElem? (i := 142) (by decide +kernel)) rfl⟩
theorem xant_ok : ∀ q ∈ xant, xAN q := List.forall_mem_cons.mpr ⟨xan0, List.forall_mem_cons.mpr ⟨xan1, List.forall_mem_cons.mpr ⟨xan2, fun _ h => absurd h List.not_mem_nil⟩⟩⟩
theorem xac_int : Cond.arrayClass .int ∈ xTB := xTB_in (List.mem_of_getElem? (i := 135) (by decide +kernel)) rfl
theorem xac_boolean : Cond.arrayClass .boolean ∈ xTB := xTB_in (List.mem_of_getElem? (i := 274) (by decide +kernel)) rfl
theorem xac_long : Cond.arrayClass .long ∈ xTB := xTB_in (List.mem_of_getElem? (i := 720) (by decide +kernel)) rfl
def xMo (t : xT) (np : Nat) : Prop := Cond.code t.2.1 t.2.2.1 t.2.2.2.1 t.2.2.2.2 ∈ xTB ∧ Cond.initialized t.2.1.cls ∈ xTB ∧ (t.2.1.cls ≠ "java/lang/invoke/MethodHandle" ∧ t.2.1.cls ≠ "java/lang/invoke/VarHandle") ∧ (parseMethodDescriptor t.2.1.desc).map (fun d => d.parameters.length) = some np ∧ t.2.2.2.1 ≤ 29 ∧ plainName t.2.1.cls = true ∧ t.2.1.cls = xnm t.1
set_option maxRecDepth 20000 in
theorem mX0_init : xMo tX0_init 0 := ⟨xTB_in (List.mem_of_getElem? (i := 254) (by rfl)) rfl, xTB_in (List.mem_of_getElem? (i := 42) (by decide +kernel)) rfl, ⟨by decide +kernel, by decide +kernel⟩, by decide +kernel, by decide, by decide, rfl⟩
set_option maxRecDepth 20000 in
theorem mX0_refresh : xMo tX0_refresh 2 := ⟨xTB_in (List.mem_of_getElem? (i := 552) (by rfl)) rfl, xTB_in (List.mem_of_getElem? (i := 42) (by decide +kernel)) rfl, ⟨by decide +kernel, by decide +kernel⟩, by decide +kernel, by decide, by decide, rfl⟩
set_option maxRecDepth 20000 in
theorem mX0_findTightest : xMo tX0_findTightest 2 := ⟨xTB_in (List.mem_of_getElem? (i := 556) (by rfl)) rfl, xTB_in (List.mem_of_getElem? (i := 42) (by decide +kernel)) rfl, ⟨by decide +kernel, by decide +kernel⟩, by decide +kernel, by decide, by decide, rfl⟩
set_option maxRecDepth 20000 in
theorem mX0_openUsers : xMo tX0_openUsers 3 := ⟨xTB_in (List.mem_of_getElem? (i := 560) (by rfl)) rfl, xTB_in (List.mem_of_getElem? (i := 42) (by decide +kernel)) rfl, ⟨by decide +kernel, by decide +kernel⟩, by decide +kernel, by decide, by decide, rfl⟩
set_option maxRecDepth 20000 in
theorem mX0_setShare : xMo tX0_setShare 4 := ⟨xTB_in (List.mem_of_getElem? (i := 568) (by rfl)) rfl, xTB_in (List.mem_of_getElem? (i := 42) (by decide +kernel)) rfl, ⟨by decide +kernel, by decide +kernel⟩, by decide +kernel, by decide, by decide, rfl⟩
set_option maxRecDepth 20000 in
theorem mX0_closeAlong : xMo tX0_closeAlong 3 := ⟨xTB_in (List.mem_of_getElem? (i := 588) (by rfl)) rfl, xTB_in (List.mem_of_getElem? (i := 42) (by decide +kernel)) rfl, ⟨by decide +kernel, by decide +kernel⟩, by decide +kernel, by decide, by decide, rfl⟩
set_option maxRecDepth 20000 in
theorem mX1_init : xMo tX1_init 0 := ⟨xTB_in (List.mem_of_getElem? (i := 300) (by rfl)) rfl, xTB_in (List.mem_of_getElem? (i := 44) (by decide +kernel)) rfl, ⟨by decide +kernel, by decide +kernel⟩, by decide +kernel, by decide, by decide, rfl⟩
set_option maxRecDepth 20000 in
theorem mX1_most : xMo tX1_most 4 := ⟨xTB_in (List.mem_of_getElem? (i := 600) (by rfl)) rfl, xTB_in (List.mem_of_getElem? (i := 44) (by decide +kernel)) rfl, ⟨by decide +kernel, by decide +kernel⟩, by decide +kernel, by decide, by decide, rfl⟩
set_option maxRecDepth 20000 in
theorem mX1_reaches : xMo tX1_reaches 3 := ⟨xTB_in (List.mem_of_getElem? (i := 604) (by rfl)) rfl, xTB_in (List.mem_of_getElem? (i := 44) (by decide +kernel)) rfl, ⟨by decide +kernel, by decide +kernel⟩, by decide +kernel, by decide, by decide, rfl⟩
set_option maxRecDepth 20000 in
theorem mX1_push : xMo tX1_push 2 := ⟨xTB_in (List.mem_of_getElem? (i := 611) (by rfl)) rfl, xTB_in (List.mem_of_getElem? (i := 44) (by decide +kernel)) rfl, ⟨by decide +kernel, by decide +kernel⟩, by decide +kernel, by decide, by decide, rfl⟩
set_option maxRecDepth 20000 in
theorem mX1_startOf : xMo tX1_startOf 2 := ⟨xTB_in (List.mem_of_getElem? (i := 607) (by rfl)) rfl, xTB_in (List.mem_of_getElem? (i := 44) (by decide +kernel)) rfl, ⟨by decide +kernel, by decide +kernel⟩, by decide +kernel, by decide, by decide, rfl⟩
set_option maxRecDepth 20000 in
theorem mX2_init : xMo tX2_init 0 := ⟨xTB_in (List.mem_of_getElem? (i := 261) (by rfl)) rfl, xTB_in (List.mem_of_getElem? (i := 43) (by decide +kernel)) rfl, ⟨by decide +kernel, by decide +kernel⟩, by decide +kernel, by decide, by decide, rfl⟩
set_option maxRecDepth 20000 in
theorem mX2_set : xMo tX2_set 2 := ⟨xTB_in (List.mem_of_getElem? (i := 572) (by rfl)) rfl, xTB_in (List.mem_of_getElem? (i := 43) (by decide +kernel)) rfl, ⟨by decide +kernel, by decide +kernel⟩, by decide +kernel, by decide, by decide, rfl⟩
set_option maxRecDepth 20000 in
theorem mX2_subtract : xMo tX2_subtract 1 := ⟨xTB_in (List.mem_of_getElem? (i := 579) (by rfl)) rfl, xTB_in (List.mem_of_getElem? (i := 43) (by decide +kernel)) rfl, ⟨by decide +kernel, by decide +kernel⟩, by decide +kernel, by decide, by decide, rfl⟩
set_option maxRecDepth 20000 in
theorem mX2_isLessThan : xMo tX2_isLessThan 1 := ⟨xTB_in (List.mem_of_getElem? (i := 584) (by rfl)) rfl, xTB_in (List.mem_of_getElem? (i := 43) (by decide +kernel)) rfl, ⟨by decide +kernel, by decide +kernel⟩, by decide +kernel, by decide, by decide, rfl⟩
set_option maxRecDepth 20000 in
theorem mX2_commonFactor : xMo tX2_commonFactor 2 := ⟨xTB_in (List.mem_of_getElem? (i := 575) (by rfl)) rfl, xTB_in (List.mem_of_getElem? (i := 43) (by decide +kernel)) rfl, ⟨by decide +kernel, by decide +kernel⟩, by decide +kernel, by decide, by decide, rfl⟩
set_option maxRecDepth 20000 in
theorem mX3_init : xMo tX3_init 0 := ⟨xTB_in (List.mem_of_getElem? (i := 215) (by rfl)) rfl, xTB_in (List.mem_of_getElem? (i := 41) (by decide +kernel)) rfl, ⟨by decide +kernel, by decide +kernel⟩, by decide +kernel, by decide, by decide, rfl⟩
set_option maxRecDepth 20000 in
theorem mX3_clear : xMo tX3_clear 0 := ⟨xTB_in (List.mem_of_getElem? (i := 461) (by rfl)) rfl, xTB_in (List.mem_of_getElem? (i := 41) (by decide +kernel)) rfl, ⟨by decide +kernel, by decide +kernel⟩, by decide +kernel, by decide, by decide, rfl⟩
set_option maxRecDepth 20000 in
theorem mX3_add : xMo tX3_add 2 := ⟨xTB_in (List.mem_of_getElem? (i := 485) (by rfl)) rfl, xTB_in (List.mem_of_getElem? (i := 41) (by decide +kernel)) rfl, ⟨by decide +kernel, by decide +kernel⟩, by decide +kernel, by decide, by decide, rfl⟩
set_option maxRecDepth 20000 in
theorem mX3_addAll : xMo tX3_addAll 3 := ⟨xTB_in (List.mem_of_getElem? (i := 493) (by rfl)) rfl, xTB_in (List.mem_of_getElem? (i := 41) (by decide +kernel)) rfl, ⟨by decide +kernel, by decide +kernel⟩, by decide +kernel, by decide, by decide, rfl⟩
set_option maxRecDepth 20000 in
theorem mX3_leavesRoomFor : xMo tX3_leavesRoomFor 3 := ⟨xTB_in (List.mem_of_getElem? (i := 477) (by rfl)) rfl, xTB_in (List.mem_of_getElem? (i := 41) (by decide +kernel)) rfl, ⟨by decide +kernel, by decide +kernel⟩, by decide +kernel, by decide, by decide, rfl⟩
set_option maxRecDepth 20000 in
theorem mX3_firstAbove : xMo tX3_firstAbove 2 := ⟨xTB_in (List.mem_of_getElem? (i := 540) (by rfl)) rfl, xTB_in (List.mem_of_getElem? (i := 41) (by decide +kernel)) rfl, ⟨by decide +kernel, by decide +kernel⟩, by decide +kernel, by decide, by decide, rfl⟩
set_option maxRecDepth 20000 in
theorem mX4_init : xMo tX4_init 0 := ⟨xTB_in (List.mem_of_getElem? (i := 59) (by rfl)) rfl, xTB_in (List.mem_of_getElem? (i := 36) (by decide +kernel)) rfl, ⟨by decide +kernel, by decide +kernel⟩, by decide +kernel, by decide, by decide, rfl⟩
set_option maxRecDepth 20000 in
theorem mX4_areTwoNodes : xMo tX4_areTwoNodes 2 := ⟨xTB_in (List.mem_of_getElem? (i := 354) (by rfl)) rfl, xTB_in (List.mem_of_getElem? (i := 36) (by decide +kernel)) rfl, ⟨by decide +kernel, by decide +kernel⟩, by decide +kernel, by decide, by decide, rfl⟩
set_option maxRecDepth 20000 in
theorem mX4_isArc : xMo tX4_isArc 1 := ⟨xTB_in (List.mem_of_getElem? (i := 370) (by rfl)) rfl, xTB_in (List.mem_of_getElem? (i := 36) (by decide +kernel)) rfl, ⟨by decide +kernel, by decide +kernel⟩, by decide +kernel, by decide, by decide, rfl⟩
set_option maxRecDepth 20000 in
theorem mX4_isGood : xMo tX4_isGood 1 := ⟨xTB_in (List.mem_of_getElem? (i := 390) (by rfl)) rfl, xTB_in (List.mem_of_getElem? (i := 36) (by decide +kernel)) rfl, ⟨by decide +kernel, by decide +kernel⟩, by decide +kernel, by decide, by decide, rfl⟩
set_option maxRecDepth 20000 in
theorem mX4_addArc : xMo tX4_addArc 4 := ⟨xTB_in (List.mem_of_getElem? (i := 362) (by rfl)) rfl, xTB_in (List.mem_of_getElem? (i := 36) (by decide +kernel)) rfl, ⟨by decide +kernel, by decide +kernel⟩, by decide +kernel, by decide, by decide, rfl⟩
set_option maxRecDepth 20000 in
theorem mX4_addGood : xMo tX4_addGood 4 := ⟨xTB_in (List.mem_of_getElem? (i := 382) (by rfl)) rfl, xTB_in (List.mem_of_getElem? (i := 36) (by decide +kernel)) rfl, ⟨by decide +kernel, by decide +kernel⟩, by decide +kernel, by decide, by decide, rfl⟩
set_option maxRecDepth 20000 in
theorem mX4_isCut : xMo tX4_isCut 1 := ⟨xTB_in (List.mem_of_getElem? (i := 620) (by rfl)) rfl, xTB_in (List.mem_of_getElem? (i := 36) (by decide +kernel)) rfl, ⟨by decide +kernel, by decide +kernel⟩, by decide +kernel, by decide, by decide, rfl⟩
set_option maxRecDepth 20000 in
theorem mX4_demandOutOf : xMo tX4_demandOutOf 1 := ⟨xTB_in (List.mem_of_getElem? (i := 624) (by rfl)) rfl, xTB_in (List.mem_of_getElem? (i := 36) (by decide +kernel)) rfl, ⟨by decide +kernel, by decide +kernel⟩, by decide +kernel, by decide, by decide, rfl⟩
set_option maxRecDepth 20000 in
theorem mX4_leadsOut : xMo tX4_leadsOut 3 := ⟨xTB_in (List.mem_of_getElem? (i := 627) (by rfl)) rfl, xTB_in (List.mem_of_getElem? (i := 36) (by decide +kernel)) rfl, ⟨by decide +kernel, by decide +kernel⟩, by decide +kernel, by decide, by decide, rfl⟩
set_option maxRecDepth 20000 in
theorem mX5_init : xMo tX5_init 0 := ⟨xTB_in (List.mem_of_getElem? (i := 209) (by rfl)) rfl, xTB_in (List.mem_of_getElem? (i := 40) (by decide +kernel)) rfl, ⟨by decide +kernel, by decide +kernel⟩, by decide +kernel, by decide, by decide, rfl⟩
set_option maxRecDepth 20000 in
theorem mX5_findBest : xMo tX5_findBest 2 := ⟨xTB_in (List.mem_of_getElem? (i := 453) (by rfl)) rfl, xTB_in (List.mem_of_getElem? (i := 40) (by decide +kernel)) rfl, ⟨by decide +kernel, by decide +kernel⟩, by decide +kernel, by decide, by decide, rfl⟩
set_option maxRecDepth 20000 in
theorem mX5_mostWorthWithWider : xMo tX5_mostWorthWithWider 5 := ⟨xTB_in (List.mem_of_getElem? (i := 516) (by rfl)) rfl, xTB_in (List.mem_of_getElem? (i := 40) (by decide +kernel)) rfl, ⟨by decide +kernel, by decide +kernel⟩, by decide +kernel, by decide, by decide, rfl⟩
set_option maxRecDepth 20000 in
theorem mX5_prepare : xMo tX5_prepare 2 := ⟨xTB_in (List.mem_of_getElem? (i := 457) (by rfl)) rfl, xTB_in (List.mem_of_getElem? (i := 40) (by decide +kernel)) rfl, ⟨by decide +kernel, by decide +kernel⟩, by decide +kernel, by decide, by decide, rfl⟩
set_option maxRecDepth 20000 in
theorem mX5_choose : xMo tX5_choose 5 := ⟨xTB_in (List.mem_of_getElem? (i := 465) (by rfl)) rfl, xTB_in (List.mem_of_getElem? (i := 40) (by decide +kernel)) rfl, ⟨by decide +kernel, by decide +kernel⟩, by decide +kernel, by decide, by decide, rfl⟩
set_option maxRecDepth 20000 in
theorem mX5_serve : xMo tX5_serve 6 := ⟨xTB_in (List.mem_of_getElem? (i := 481) (by rfl)) rfl, xTB_in (List.mem_of_getElem? (i := 40) (by decide +kernel)) rfl, ⟨by decide +kernel, by decide +kernel⟩, by decide +kernel, by decide, by decide, rfl⟩
set_option maxRecDepth 20000 in
theorem mX5_leaveOut : xMo tX5_leaveOut 5 := ⟨xTB_in (List.mem_of_getElem? (i := 489) (by rfl)) rfl, xTB_in (List.mem_of_getElem? (i := 40) (by decide +kernel)) rfl, ⟨by decide +kernel, by decide +kernel⟩, by decide +kernel, by decide, by decide, rfl⟩
set_option maxRecDepth 20000 in
theorem mX5_mayBeBetter : xMo tX5_mayBeBetter 2 := ⟨xTB_in (List.mem_of_getElem? (i := 469) (by rfl)) rfl, xTB_in (List.mem_of_getElem? (i := 40) (by decide +kernel)) rfl, ⟨by decide +kernel, by decide +kernel⟩, by decide +kernel, by decide, by decide, rfl⟩
set_option maxRecDepth 20000 in
theorem mX5_keep : xMo tX5_keep 3 := ⟨xTB_in (List.mem_of_getElem? (i := 473) (by rfl)) rfl, xTB_in (List.mem_of_getElem? (i := 40) (by decide +kernel)) rfl, ⟨by decide +kernel, by decide +kernel⟩, by decide +kernel, by decide, by decide, rfl⟩
set_option maxRecDepth 20000 in
theorem mX6_init : xMo tX6_init 0 := ⟨xTB_in (List.mem_of_getElem? (i := 154) (by rfl)) rfl, xTB_in (List.mem_of_getElem? (i := 39) (by decide +kernel)) rfl, ⟨by decide +kernel, by decide +kernel⟩, by decide +kernel, by decide, by decide, rfl⟩
set_option maxRecDepth 20000 in
theorem mX6_copyFrom : xMo tX6_copyFrom 3 := ⟨xTB_in (List.mem_of_getElem? (i := 421) (by rfl)) rfl, xTB_in (List.mem_of_getElem? (i := 39) (by decide +kernel)) rfl, ⟨by decide +kernel, by decide +kernel⟩, by decide +kernel, by decide, by decide, rfl⟩
set_option maxRecDepth 20000 in
theorem mX6_uses : xMo tX6_uses 1 := ⟨xTB_in (List.mem_of_getElem? (i := 564) (by rfl)) rfl, xTB_in (List.mem_of_getElem? (i := 39) (by decide +kernel)) rfl, ⟨by decide +kernel, by decide +kernel⟩, by decide +kernel, by decide, by decide, rfl⟩
set_option maxRecDepth 20000 in
theorem mX7_init : xMo tX7_init 0 := ⟨xTB_in (List.mem_of_getElem? (i := 147) (by rfl)) rfl, xTB_in (List.mem_of_getElem? (i := 38) (by decide +kernel)) rfl, ⟨by decide +kernel, by decide +kernel⟩, by decide +kernel, by decide, by decide, rfl⟩
set_option maxRecDepth 20000 in
theorem mX7_has : xMo tX7_has 1 := ⟨xTB_in (List.mem_of_getElem? (i := 441) (by rfl)) rfl, xTB_in (List.mem_of_getElem? (i := 38) (by decide +kernel)) rfl, ⟨by decide +kernel, by decide +kernel⟩, by decide +kernel, by decide, by decide, rfl⟩
set_option maxRecDepth 20000 in
theorem mX7_hasPlaceFor : xMo tX7_hasPlaceFor 1 := ⟨xTB_in (List.mem_of_getElem? (i := 429) (by rfl)) rfl, xTB_in (List.mem_of_getElem? (i := 38) (by decide +kernel)) rfl, ⟨by decide +kernel, by decide +kernel⟩, by decide +kernel, by decide, by decide, rfl⟩
set_option maxRecDepth 20000 in
theorem mX7_insert : xMo tX7_insert 3 := ⟨xTB_in (List.mem_of_getElem? (i := 414) (by rfl)) rfl, xTB_in (List.mem_of_getElem? (i := 38) (by decide +kernel)) rfl, ⟨by decide +kernel, by decide +kernel⟩, by decide +kernel, by decide, by decide, rfl⟩
set_option maxRecDepth 20000 in
theorem mX8_init : xMo tX8_init 0 := ⟨xTB_in (List.mem_of_getElem? (i := 140) (by rfl)) rfl, xTB_in (List.mem_of_getElem? (i := 37) (by decide +kernel)) rfl, ⟨by decide +kernel, by decide +kernel⟩, by decide +kernel, by decide, by decide, rfl⟩
set_option maxRecDepth 20000 in
theorem mX8_refresh : xMo tX8_refresh 1 := ⟨xTB_in (List.mem_of_getElem? (i := 402) (by rfl)) rfl, xTB_in (List.mem_of_getElem? (i := 37) (by decide +kernel)) rfl, ⟨by decide +kernel, by decide +kernel⟩, by decide +kernel, by decide, by decide, rfl⟩
set_option maxRecDepth 20000 in
theorem mX8_measure : xMo tX8_measure 2 := ⟨xTB_in (List.mem_of_getElem? (i := 406) (by rfl)) rfl, xTB_in (List.mem_of_getElem? (i := 37) (by decide +kernel)) rfl, ⟨by decide +kernel, by decide +kernel⟩, by decide +kernel, by decide, by decide, rfl⟩
set_option maxRecDepth 20000 in
theorem mX8_walk : xMo tX8_walk 6 := ⟨xTB_in (List.mem_of_getElem? (i := 410) (by rfl)) rfl, xTB_in (List.mem_of_getElem? (i := 37) (by decide +kernel)) rfl, ⟨by decide +kernel, by decide +kernel⟩, by decide +kernel, by decide, by decide, rfl⟩
set_option maxRecDepth 20000 in
theorem mX8_follow : xMo tX8_follow 6 := ⟨xTB_in (List.mem_of_getElem? (i := 433) (by rfl)) rfl, xTB_in (List.mem_of_getElem? (i := 37) (by decide +kernel)) rfl, ⟨by decide +kernel, by decide +kernel⟩, by decide +kernel, by decide, by decide, rfl⟩
set_option maxRecDepth 20000 in
theorem mX8_isWorthwhile : xMo tX8_isWorthwhile 3 := ⟨xTB_in (List.mem_of_getElem? (i := 425) (by rfl)) rfl, xTB_in (List.mem_of_getElem? (i := 37) (by decide +kernel)) rfl, ⟨by decide +kernel, by decide +kernel⟩, by decide +kernel, by decide, by decide, rfl⟩
set_option maxRecDepth 20000 in
theorem mX9_init : xMo tX9_init 0 := ⟨xTB_in (List.mem_of_getElem? (i := 51) (by rfl)) rfl, xTB_in (List.mem_of_getElem? (i := 35) (by decide +kernel)) rfl, ⟨by decide +kernel, by decide +kernel⟩, by decide +kernel, by decide, by decide, rfl⟩
set_option maxRecDepth 20000 in
theorem mX9_node : xMo tX9_node 0 := ⟨xTB_in (List.mem_of_getElem? (i := 346) (by rfl)) rfl, xTB_in (List.mem_of_getElem? (i := 35) (by decide +kernel)) rfl, ⟨by decide +kernel, by decide +kernel⟩, by decide +kernel, by decide, by decide, rfl⟩
set_option maxRecDepth 20000 in
theorem mX9_arc : xMo tX9_arc 4 := ⟨xTB_in (List.mem_of_getElem? (i := 350) (by rfl)) rfl, xTB_in (List.mem_of_getElem? (i := 35) (by decide +kernel)) rfl, ⟨by decide +kernel, by decide +kernel⟩, by decide +kernel, by decide, by decide, rfl⟩
set_option maxRecDepth 20000 in
theorem mX9_capacity : xMo tX9_capacity 2 := ⟨xTB_in (List.mem_of_getElem? (i := 366) (by rfl)) rfl, xTB_in (List.mem_of_getElem? (i := 35) (by decide +kernel)) rfl, ⟨by decide +kernel, by decide +kernel⟩, by decide +kernel, by decide, by decide, rfl⟩
set_option maxRecDepth 20000 in
theorem mX9_cost : xMo tX9_cost 2 := ⟨xTB_in (List.mem_of_getElem? (i := 374) (by rfl)) rfl, xTB_in (List.mem_of_getElem? (i := 35) (by decide +kernel)) rfl, ⟨by decide +kernel, by decide +kernel⟩, by decide +kernel, by decide, by decide, rfl⟩
set_option maxRecDepth 20000 in
theorem mX9_good : xMo tX9_good 4 := ⟨xTB_in (List.mem_of_getElem? (i := 378) (by rfl)) rfl, xTB_in (List.mem_of_getElem? (i := 35) (by decide +kernel)) rfl, ⟨by decide +kernel, by decide +kernel⟩, by decide +kernel, by decide, by decide, rfl⟩
set_option maxRecDepth 20000 in
theorem mX9_demand : xMo tX9_demand 2 := ⟨xTB_in (List.mem_of_getElem? (i := 386) (by rfl)) rfl, xTB_in (List.mem_of_getElem? (i := 35) (by decide +kernel)) rfl, ⟨by decide +kernel, by decide +kernel⟩, by decide +kernel, by decide, by decide, rfl⟩
set_option maxRecDepth 20000 in
theorem mX9_worth : xMo tX9_worth 2 := ⟨xTB_in (List.mem_of_getElem? (i := 394) (by rfl)) rfl, xTB_in (List.mem_of_getElem? (i := 35) (by decide +kernel)) rfl, ⟨by decide +kernel, by decide +kernel⟩, by decide +kernel, by decide, by decide, rfl⟩
set_option maxRecDepth 20000 in
theorem mX9_ways : xMo tX9_ways 1 := ⟨xTB_in (List.mem_of_getElem? (i := 398) (by rfl)) rfl, xTB_in (List.mem_of_getElem? (i := 35) (by decide +kernel)) rfl, ⟨by decide +kernel, by decide +kernel⟩, by decide +kernel, by decide, by decide, rfl⟩
set_option maxRecDepth 20000 in
theorem mX9_way : xMo tX9_way 3 := ⟨xTB_in (List.mem_of_getElem? (i := 437) (by rfl)) rfl, xTB_in (List.mem_of_getElem? (i := 35) (by decide +kernel)) rfl, ⟨by decide +kernel, by decide +kernel⟩, by decide +kernel, by decide, by decide, rfl⟩
set_option maxRecDepth 20000 in
theorem mX9_best : xMo tX9_best 0 := ⟨xTB_in (List.mem_of_getElem? (i := 445) (by rfl)) rfl, xTB_in (List.mem_of_getElem? (i := 35) (by decide +kernel)) rfl, ⟨by decide +kernel, by decide +kernel⟩, by decide +kernel, by decide, by decide, rfl⟩
set_option maxRecDepth 20000 in
theorem mX9_spent : xMo tX9_spent 0 := ⟨xTB_in (List.mem_of_getElem? (i := 500) (by rfl)) rfl, xTB_in (List.mem_of_getElem? (i := 35) (by decide +kernel)) rfl, ⟨by decide +kernel, by decide +kernel⟩, by decide +kernel, by decide, by decide, rfl⟩
set_option maxRecDepth 20000 in
theorem mX9_plan : xMo tX9_plan 1 := ⟨xTB_in (List.mem_of_getElem? (i := 504) (by rfl)) rfl, xTB_in (List.mem_of_getElem? (i := 35) (by decide +kernel)) rfl, ⟨by decide +kernel, by decide +kernel⟩, by decide +kernel, by decide, by decide, rfl⟩
set_option maxRecDepth 20000 in
theorem mX9_load : xMo tX9_load 1 := ⟨xTB_in (List.mem_of_getElem? (i := 508) (by rfl)) rfl, xTB_in (List.mem_of_getElem? (i := 35) (by decide +kernel)) rfl, ⟨by decide +kernel, by decide +kernel⟩, by decide +kernel, by decide, by decide, rfl⟩
set_option maxRecDepth 20000 in
theorem mX9_price : xMo tX9_price 2 := ⟨xTB_in (List.mem_of_getElem? (i := 512) (by rfl)) rfl, xTB_in (List.mem_of_getElem? (i := 35) (by decide +kernel)) rfl, ⟨by decide +kernel, by decide +kernel⟩, by decide +kernel, by decide, by decide, rfl⟩
set_option maxRecDepth 20000 in
theorem mX9_attempt : xMo tX9_attempt 2 := ⟨xTB_in (List.mem_of_getElem? (i := 520) (by rfl)) rfl, xTB_in (List.mem_of_getElem? (i := 35) (by decide +kernel)) rfl, ⟨by decide +kernel, by decide +kernel⟩, by decide +kernel, by decide, by decide, rfl⟩
set_option maxRecDepth 20000 in
theorem mX9_attempted : xMo tX9_attempted 1 := ⟨xTB_in (List.mem_of_getElem? (i := 524) (by rfl)) rfl, xTB_in (List.mem_of_getElem? (i := 35) (by decide +kernel)) rfl, ⟨by decide +kernel, by decide +kernel⟩, by decide +kernel, by decide, by decide, rfl⟩
set_option maxRecDepth 20000 in
theorem mX9_rate : xMo tX9_rate 2 := ⟨xTB_in (List.mem_of_getElem? (i := 544) (by rfl)) rfl, xTB_in (List.mem_of_getElem? (i := 35) (by decide +kernel)) rfl, ⟨by decide +kernel, by decide +kernel⟩, by decide +kernel, by decide, by decide, rfl⟩
set_option maxRecDepth 20000 in
theorem mX9_bottleneck : xMo tX9_bottleneck 1 := ⟨xTB_in (List.mem_of_getElem? (i := 592) (by rfl)) rfl, xTB_in (List.mem_of_getElem? (i := 35) (by decide +kernel)) rfl, ⟨by decide +kernel, by decide +kernel⟩, by decide +kernel, by decide, by decide, rfl⟩
set_option maxRecDepth 20000 in
theorem mX9_more : xMo tX9_more 1 := ⟨xTB_in (List.mem_of_getElem? (i := 596) (by rfl)) rfl, xTB_in (List.mem_of_getElem? (i := 35) (by decide +kernel)) rfl, ⟨by decide +kernel, by decide +kernel⟩, by decide +kernel, by decide, by decide, rfl⟩
set_option maxRecDepth 20000 in
theorem mX9_cut : xMo tX9_cut 0 := ⟨xTB_in (List.mem_of_getElem? (i := 616) (by rfl)) rfl, xTB_in (List.mem_of_getElem? (i := 35) (by decide +kernel)) rfl, ⟨by decide +kernel, by decide +kernel⟩, by decide +kernel, by decide, by decide, rfl⟩
set_option maxRecDepth 20000 in
theorem mX9_count : xMo tX9_count 1 := ⟨xTB_in (List.mem_of_getElem? (i := 631) (by rfl)) rfl, xTB_in (List.mem_of_getElem? (i := 35) (by decide +kernel)) rfl, ⟨by decide +kernel, by decide +kernel⟩, by decide +kernel, by decide, by decide, rfl⟩
set_option maxRecDepth 20000 in
theorem mX9_refreshPlan : xMo tX9_refreshPlan 0 := ⟨xTB_in (List.mem_of_getElem? (i := 449) (by rfl)) rfl, xTB_in (List.mem_of_getElem? (i := 35) (by decide +kernel)) rfl, ⟨by decide +kernel, by decide +kernel⟩, by decide +kernel, by decide, by decide, rfl⟩
set_option maxRecDepth 20000 in
theorem mX9_refreshRates : xMo tX9_refreshRates 0 := ⟨xTB_in (List.mem_of_getElem? (i := 548) (by rfl)) rfl, xTB_in (List.mem_of_getElem? (i := 35) (by decide +kernel)) rfl, ⟨by decide +kernel, by decide +kernel⟩, by decide +kernel, by decide, by decide, rfl⟩
set_option maxRecDepth 20000 in
theorem mX9_areTriedThere : xMo tX9_areTriedThere 0 := ⟨xTB_in (List.mem_of_getElem? (i := 528) (by rfl)) rfl, xTB_in (List.mem_of_getElem? (i := 35) (by decide +kernel)) rfl, ⟨by decide +kernel, by decide +kernel⟩, by decide +kernel, by decide, by decide, rfl⟩
set_option maxRecDepth 20000 in
theorem mX9_triedWorth : xMo tX9_triedWorth 0 := ⟨xTB_in (List.mem_of_getElem? (i := 532) (by rfl)) rfl, xTB_in (List.mem_of_getElem? (i := 35) (by decide +kernel)) rfl, ⟨by decide +kernel, by decide +kernel⟩, by decide +kernel, by decide, by decide, rfl⟩
set_option maxRecDepth 20000 in
theorem mX9_triedCost : xMo tX9_triedCost 0 := ⟨xTB_in (List.mem_of_getElem? (i := 536) (by rfl)) rfl, xTB_in (List.mem_of_getElem? (i := 35) (by decide +kernel)) rfl, ⟨by decide +kernel, by decide +kernel⟩, by decide +kernel, by decide, by decide, rfl⟩
set_option maxRecDepth 20000 in
theorem mX9_isWithin : xMo tX9_isWithin 3 := ⟨xTB_in (List.mem_of_getElem? (i := 357) (by rfl)) rfl, xTB_in (List.mem_of_getElem? (i := 35) (by decide +kernel)) rfl, ⟨by decide +kernel, by decide +kernel⟩, by decide +kernel, by decide, by decide, rfl⟩
set_option maxRecDepth 20000 in
theorem mX9_sumOfFirst : xMo tX9_sumOfFirst 2 := ⟨xTB_in (List.mem_of_getElem? (i := 634) (by rfl)) rfl, xTB_in (List.mem_of_getElem? (i := 35) (by decide +kernel)) rfl, ⟨by decide +kernel, by decide +kernel⟩, by decide +kernel, by decide, by decide, rfl⟩
set_option maxRecDepth 20000 in
theorem mX10_in : xMo tX10_in 3 := ⟨xTB_in (List.mem_of_getElem? (i := 735) (by rfl)) rfl, xTB_in (List.mem_of_getElem? (i := 45) (by decide +kernel)) rfl, ⟨by decide +kernel, by decide +kernel⟩, by decide +kernel, by decide, by decide, rfl⟩
set_option maxRecDepth 20000 in
theorem mX10_init : xMo tX10_init 0 := ⟨xTB_in (List.mem_of_getElem? (i := 639) (by rfl)) rfl, xTB_in (List.mem_of_getElem? (i := 45) (by decide +kernel)) rfl, ⟨by decide +kernel, by decide +kernel⟩, by decide +kernel, by decide, by decide, rfl⟩
set_option maxRecDepth 20000 in
theorem mX10_noNode : xMo tX10_noNode 1 := ⟨xTB_in (List.mem_of_getElem? (i := 732) (by rfl)) rfl, xTB_in (List.mem_of_getElem? (i := 45) (by decide +kernel)) rfl, ⟨by decide +kernel, by decide +kernel⟩, by decide +kernel, by decide, by decide, rfl⟩
set_option maxRecDepth 20000 in
theorem mX10_noArc : xMo tX10_noArc 1 := ⟨xTB_in (List.mem_of_getElem? (i := 758) (by rfl)) rfl, xTB_in (List.mem_of_getElem? (i := 45) (by decide +kernel)) rfl, ⟨by decide +kernel, by decide +kernel⟩, by decide +kernel, by decide, by decide, rfl⟩
set_option maxRecDepth 20000 in
theorem mX10_noGood : xMo tX10_noGood 1 := ⟨xTB_in (List.mem_of_getElem? (i := 774) (by rfl)) rfl, xTB_in (List.mem_of_getElem? (i := 45) (by decide +kernel)) rfl, ⟨by decide +kernel, by decide +kernel⟩, by decide +kernel, by decide, by decide, rfl⟩
set_option maxRecDepth 20000 in
theorem mX10_node : xMo tX10_node 0 := ⟨xTB_in (List.mem_of_getElem? (i := 724) (by rfl)) rfl, xTB_in (List.mem_of_getElem? (i := 45) (by decide +kernel)) rfl, ⟨by decide +kernel, by decide +kernel⟩, by decide +kernel, by decide, by decide, rfl⟩
set_option maxRecDepth 20000 in
theorem mX10_arc : xMo tX10_arc 4 := ⟨xTB_in (List.mem_of_getElem? (i := 728) (by rfl)) rfl, xTB_in (List.mem_of_getElem? (i := 45) (by decide +kernel)) rfl, ⟨by decide +kernel, by decide +kernel⟩, by decide +kernel, by decide, by decide, rfl⟩
set_option maxRecDepth 20000 in
theorem mX10_capacity : xMo tX10_capacity 2 := ⟨xTB_in (List.mem_of_getElem? (i := 754) (by rfl)) rfl, xTB_in (List.mem_of_getElem? (i := 45) (by decide +kernel)) rfl, ⟨by decide +kernel, by decide +kernel⟩, by decide +kernel, by decide, by decide, rfl⟩
set_option maxRecDepth 20000 in
theorem mX10_cost : xMo tX10_cost 2 := ⟨xTB_in (List.mem_of_getElem? (i := 762) (by rfl)) rfl, xTB_in (List.mem_of_getElem? (i := 45) (by decide +kernel)) rfl, ⟨by decide +kernel, by decide +kernel⟩, by decide +kernel, by decide, by decide, rfl⟩
set_option maxRecDepth 20000 in
theorem mX10_good : xMo tX10_good 4 := ⟨xTB_in (List.mem_of_getElem? (i := 766) (by rfl)) rfl, xTB_in (List.mem_of_getElem? (i := 45) (by decide +kernel)) rfl, ⟨by decide +kernel, by decide +kernel⟩, by decide +kernel, by decide, by decide, rfl⟩
set_option maxRecDepth 20000 in
theorem mX10_demand : xMo tX10_demand 2 := ⟨xTB_in (List.mem_of_getElem? (i := 770) (by rfl)) rfl, xTB_in (List.mem_of_getElem? (i := 45) (by decide +kernel)) rfl, ⟨by decide +kernel, by decide +kernel⟩, by decide +kernel, by decide, by decide, rfl⟩
set_option maxRecDepth 20000 in
theorem mX10_worth : xMo tX10_worth 2 := ⟨xTB_in (List.mem_of_getElem? (i := 778) (by rfl)) rfl, xTB_in (List.mem_of_getElem? (i := 45) (by decide +kernel)) rfl, ⟨by decide +kernel, by decide +kernel⟩, by decide +kernel, by decide, by decide, rfl⟩
set_option maxRecDepth 20000 in
theorem mX10_layWays : xMo tX10_layWays 0 := ⟨xTB_in (List.mem_of_getElem? (i := 739) (by rfl)) rfl, xTB_in (List.mem_of_getElem? (i := 45) (by decide +kernel)) rfl, ⟨by decide +kernel, by decide +kernel⟩, by decide +kernel, by decide, by decide, rfl⟩
set_option maxRecDepth 20000 in
theorem mX10_goOn : xMo tX10_goOn 6 := ⟨xTB_in (List.mem_of_getElem? (i := 742) (by rfl)) rfl, xTB_in (List.mem_of_getElem? (i := 45) (by decide +kernel)) rfl, ⟨by decide +kernel, by decide +kernel⟩, by decide +kernel, by decide, by decide, rfl⟩
set_option maxRecDepth 20000 in
theorem mX10_isAhead : xMo tX10_isAhead 3 := ⟨xTB_in (List.mem_of_getElem? (i := 750) (by rfl)) rfl, xTB_in (List.mem_of_getElem? (i := 45) (by decide +kernel)) rfl, ⟨by decide +kernel, by decide +kernel⟩, by decide +kernel, by decide, by decide, rfl⟩
set_option maxRecDepth 20000 in
theorem mX10_keep : xMo tX10_keep 3 := ⟨xTB_in (List.mem_of_getElem? (i := 746) (by rfl)) rfl, xTB_in (List.mem_of_getElem? (i := 45) (by decide +kernel)) rfl, ⟨by decide +kernel, by decide +kernel⟩, by decide +kernel, by decide, by decide, rfl⟩
set_option maxRecDepth 20000 in
theorem mX10_ways : xMo tX10_ways 1 := ⟨xTB_in (List.mem_of_getElem? (i := 782) (by rfl)) rfl, xTB_in (List.mem_of_getElem? (i := 45) (by decide +kernel)) rfl, ⟨by decide +kernel, by decide +kernel⟩, by decide +kernel, by decide, by decide, rfl⟩
set_option maxRecDepth 20000 in
theorem mX10_way : xMo tX10_way 3 := ⟨xTB_in (List.mem_of_getElem? (i := 786) (by rfl)) rfl, xTB_in (List.mem_of_getElem? (i := 45) (by decide +kernel)) rfl, ⟨by decide +kernel, by decide +kernel⟩, by decide +kernel, by decide, by decide, rfl⟩
set_option maxRecDepth 20000 in
theorem mX10_hasArc : xMo tX10_hasArc 3 := ⟨xTB_in (List.mem_of_getElem? (i := 825) (by rfl)) rfl, xTB_in (List.mem_of_getElem? (i := 45) (by decide +kernel)) rfl, ⟨by decide +kernel, by decide +kernel⟩, by decide +kernel, by decide, by decide, rfl⟩
set_option maxRecDepth 20000 in
theorem mX10_load : xMo tX10_load 3 := ⟨xTB_in (List.mem_of_getElem? (i := 805) (by rfl)) rfl, xTB_in (List.mem_of_getElem? (i := 45) (by decide +kernel)) rfl, ⟨by decide +kernel, by decide +kernel⟩, by decide +kernel, by decide, by decide, rfl⟩
set_option maxRecDepth 20000 in
theorem mX10_fits : xMo tX10_fits 2 := ⟨xTB_in (List.mem_of_getElem? (i := 801) (by rfl)) rfl, xTB_in (List.mem_of_getElem? (i := 45) (by decide +kernel)) rfl, ⟨by decide +kernel, by decide +kernel⟩, by decide +kernel, by decide, by decide, rfl⟩
set_option maxRecDepth 20000 in
theorem mX10_plans : xMo tX10_plans 4 := ⟨xTB_in (List.mem_of_getElem? (i := 797) (by rfl)) rfl, xTB_in (List.mem_of_getElem? (i := 45) (by decide +kernel)) rfl, ⟨by decide +kernel, by decide +kernel⟩, by decide +kernel, by decide, by decide, rfl⟩
set_option maxRecDepth 20000 in
theorem mX10_findBest : xMo tX10_findBest 0 := ⟨xTB_in (List.mem_of_getElem? (i := 794) (by rfl)) rfl, xTB_in (List.mem_of_getElem? (i := 45) (by decide +kernel)) rfl, ⟨by decide +kernel, by decide +kernel⟩, by decide +kernel, by decide, by decide, rfl⟩
set_option maxRecDepth 20000 in
theorem mX10_best : xMo tX10_best 0 := ⟨xTB_in (List.mem_of_getElem? (i := 790) (by rfl)) rfl, xTB_in (List.mem_of_getElem? (i := 45) (by decide +kernel)) rfl, ⟨by decide +kernel, by decide +kernel⟩, by decide +kernel, by decide, by decide, rfl⟩
set_option maxRecDepth 20000 in
theorem mX10_spent : xMo tX10_spent 0 := ⟨xTB_in (List.mem_of_getElem? (i := 809) (by rfl)) rfl, xTB_in (List.mem_of_getElem? (i := 45) (by decide +kernel)) rfl, ⟨by decide +kernel, by decide +kernel⟩, by decide +kernel, by decide, by decide, rfl⟩
set_option maxRecDepth 20000 in
theorem mX10_plan : xMo tX10_plan 1 := ⟨xTB_in (List.mem_of_getElem? (i := 813) (by rfl)) rfl, xTB_in (List.mem_of_getElem? (i := 45) (by decide +kernel)) rfl, ⟨by decide +kernel, by decide +kernel⟩, by decide +kernel, by decide, by decide, rfl⟩
set_option maxRecDepth 20000 in
theorem mX10_loadOf : xMo tX10_loadOf 2 := ⟨xTB_in (List.mem_of_getElem? (i := 821) (by rfl)) rfl, xTB_in (List.mem_of_getElem? (i := 45) (by decide +kernel)) rfl, ⟨by decide +kernel, by decide +kernel⟩, by decide +kernel, by decide, by decide, rfl⟩
set_option maxRecDepth 20000 in
theorem mX10_load_ : xMo tX10_load_ 1 := ⟨xTB_in (List.mem_of_getElem? (i := 817) (by rfl)) rfl, xTB_in (List.mem_of_getElem? (i := 45) (by decide +kernel)) rfl, ⟨by decide +kernel, by decide +kernel⟩, by decide +kernel, by decide, by decide, rfl⟩
set_option maxRecDepth 20000 in
theorem mX10_price : xMo tX10_price 2 := ⟨xTB_in (List.mem_of_getElem? (i := 829) (by rfl)) rfl, xTB_in (List.mem_of_getElem? (i := 45) (by decide +kernel)) rfl, ⟨by decide +kernel, by decide +kernel⟩, by decide +kernel, by decide, by decide, rfl⟩
set_option maxRecDepth 20000 in
theorem mX10_attempt : xMo tX10_attempt 2 := ⟨xTB_in (List.mem_of_getElem? (i := 833) (by rfl)) rfl, xTB_in (List.mem_of_getElem? (i := 45) (by decide +kernel)) rfl, ⟨by decide +kernel, by decide +kernel⟩, by decide +kernel, by decide, by decide, rfl⟩
set_option maxRecDepth 20000 in
theorem mX10_attempted : xMo tX10_attempted 1 := ⟨xTB_in (List.mem_of_getElem? (i := 837) (by rfl)) rfl, xTB_in (List.mem_of_getElem? (i := 45) (by decide +kernel)) rfl, ⟨by decide +kernel, by decide +kernel⟩, by decide +kernel, by decide, by decide, rfl⟩
set_option maxRecDepth 20000 in
theorem mX10_common : xMo tX10_common 2 := ⟨xTB_in (List.mem_of_getElem? (i := 848) (by rfl)) rfl, xTB_in (List.mem_of_getElem? (i := 45) (by decide +kernel)) rfl, ⟨by decide +kernel, by decide +kernel⟩, by decide +kernel, by decide, by decide, rfl⟩
set_option maxRecDepth 20000 in
theorem mX10_findRates : xMo tX10_findRates 0 := ⟨xTB_in (List.mem_of_getElem? (i := 845) (by rfl)) rfl, xTB_in (List.mem_of_getElem? (i := 45) (by decide +kernel)) rfl, ⟨by decide +kernel, by decide +kernel⟩, by decide +kernel, by decide, by decide, rfl⟩
set_option maxRecDepth 20000 in
theorem mX10_rate : xMo tX10_rate 2 := ⟨xTB_in (List.mem_of_getElem? (i := 841) (by rfl)) rfl, xTB_in (List.mem_of_getElem? (i := 45) (by decide +kernel)) rfl, ⟨by decide +kernel, by decide +kernel⟩, by decide +kernel, by decide, by decide, rfl⟩
set_option maxRecDepth 20000 in
theorem mX10_bottleneck : xMo tX10_bottleneck 1 := ⟨xTB_in (List.mem_of_getElem? (i := 852) (by rfl)) rfl, xTB_in (List.mem_of_getElem? (i := 45) (by decide +kernel)) rfl, ⟨by decide +kernel, by decide +kernel⟩, by decide +kernel, by decide, by decide, rfl⟩
set_option maxRecDepth 20000 in
theorem mX10_has : xMo tX10_has 2 := ⟨xTB_in (List.mem_of_getElem? (i := 859) (by rfl)) rfl, xTB_in (List.mem_of_getElem? (i := 45) (by decide +kernel)) rfl, ⟨by decide +kernel, by decide +kernel⟩, by decide +kernel, by decide, by decide, rfl⟩
set_option maxRecDepth 20000 in
theorem mX10_more : xMo tX10_more 1 := ⟨xTB_in (List.mem_of_getElem? (i := 856) (by rfl)) rfl, xTB_in (List.mem_of_getElem? (i := 45) (by decide +kernel)) rfl, ⟨by decide +kernel, by decide +kernel⟩, by decide +kernel, by decide, by decide, rfl⟩
set_option maxRecDepth 20000 in
theorem mX10_cut : xMo tX10_cut 0 := ⟨xTB_in (List.mem_of_getElem? (i := 863) (by rfl)) rfl, xTB_in (List.mem_of_getElem? (i := 45) (by decide +kernel)) rfl, ⟨by decide +kernel, by decide +kernel⟩, by decide +kernel, by decide, by decide, rfl⟩
set_option maxRecDepth 20000 in
theorem mX10_count : xMo tX10_count 1 := ⟨xTB_in (List.mem_of_getElem? (i := 867) (by rfl)) rfl, xTB_in (List.mem_of_getElem? (i := 45) (by decide +kernel)) rfl, ⟨by decide +kernel, by decide +kernel⟩, by decide +kernel, by decide, by decide, rfl⟩
theorem xmin1 : Cond.static Lib.Math.min.name ∈ xTB := xTB_in (List.mem_of_getElem? (i := 416) (by decide +kernel)) rfl
theorem xmin2 : Cond.initialized "java/lang/Math" ∈ xTB := xTB_in (List.mem_of_getElem? (i := 46) (by decide +kernel)) rfl
set_option maxRecDepth 20000 in
theorem xmin3 : Cond.code Lib.Math.min.name Lib.Math.min.code 2 (some .int) ∈ xTB := xTB_in (List.mem_of_getElem? (i := 417) (by rfl)) rfl
def xCV (o idx : Nat) (t : xT) : Prop := Cond.methodLink (xnm o) idx t.2.1 ∈ xTB ∧ Cond.instanceMethod t.2.1 ∈ xTB ∧ Cond.selects t.2.1.cls t.2.1 t.2.1 ∈ xTB
def xCS (o idx : Nat) (t : xT) : Prop := Cond.methodLink (xnm o) idx t.2.1 ∈ xTB ∧ Cond.static t.2.1 ∈ xTB
def xCI (o idx : Nat) (t : xT) : Prop := Cond.methodLink (xnm o) idx t.2.1 ∈ xTB ∧ Cond.instanceMethod t.2.1 ∈ xTB
def xCN (o idx : Nat) (t : xT) (h : String) : Prop := (xnm o, idx, t.2.1, h) ∈ xnest
theorem k11_9 : xCI 11 9 tX9_init := ⟨xTB_in (List.mem_of_getElem? (i := 49) (by decide +kernel)) rfl, xTB_in (List.mem_of_getElem? (i := 50) (by decide +kernel)) rfl⟩
theorem k9_3 : Cond.methodLink (xnm 9) 3 objectInit ∈ xTB := xTB_in (List.mem_of_getElem? (i := 52) (by decide +kernel)) rfl
theorem k4_3 : Cond.methodLink (xnm 4) 3 objectInit ∈ xTB := xTB_in (List.mem_of_getElem? (i := 60) (by decide +kernel)) rfl
theorem k9_18 : xCI 9 18 tX8_init := ⟨xTB_in (List.mem_of_getElem? (i := 138) (by decide +kernel)) rfl, xTB_in (List.mem_of_getElem? (i := 139) (by decide +kernel)) rfl⟩
theorem k8_3 : Cond.methodLink (xnm 8) 3 objectInit ∈ xTB := xTB_in (List.mem_of_getElem? (i := 141) (by decide +kernel)) rfl
theorem k8_28 : xCI 8 28 tX7_init := ⟨xTB_in (List.mem_of_getElem? (i := 145) (by decide +kernel)) rfl, xTB_in (List.mem_of_getElem? (i := 146) (by decide +kernel)) rfl⟩
theorem k7_3 : Cond.methodLink (xnm 7) 3 objectInit ∈ xTB := xTB_in (List.mem_of_getElem? (i := 148) (by decide +kernel)) rfl
theorem k6_3 : Cond.methodLink (xnm 6) 3 objectInit ∈ xTB := xTB_in (List.mem_of_getElem? (i := 155) (by decide +kernel)) rfl
theorem k5_3 : Cond.methodLink (xnm 5) 3 objectInit ∈ xTB := xTB_in (List.mem_of_getElem? (i := 210) (by decide +kernel)) rfl
theorem k3_3 : Cond.methodLink (xnm 3) 3 objectInit ∈ xTB := xTB_in (List.mem_of_getElem? (i := 216) (by decide +kernel)) rfl
theorem k9_49 : xCI 9 49 tX0_init := ⟨xTB_in (List.mem_of_getElem? (i := 252) (by decide +kernel)) rfl, xTB_in (List.mem_of_getElem? (i := 253) (by decide +kernel)) rfl⟩
theorem k0_3 : Cond.methodLink (xnm 0) 3 objectInit ∈ xTB := xTB_in (List.mem_of_getElem? (i := 255) (by decide +kernel)) rfl
theorem k2_1 : Cond.methodLink (xnm 2) 1 objectInit ∈ xTB := xTB_in (List.mem_of_getElem? (i := 262) (by decide +kernel)) rfl
theorem k1_3 : Cond.methodLink (xnm 1) 3 objectInit ∈ xTB := xTB_in (List.mem_of_getElem? (i := 301) (by decide +kernel)) rfl
theorem k11_13 : xCV 11 13 tX9_node := ⟨xTB_in (List.mem_of_getElem? (i := 343) (by decide +kernel)) rfl, xTB_in (List.mem_of_getElem? (i := 344) (by decide +kernel)) rfl, xTB_in (List.mem_of_getElem? (i := 345) (by decide +kernel)) rfl⟩
theorem k11_18 : xCV 11 18 tX9_arc := ⟨xTB_in (List.mem_of_getElem? (i := 347) (by decide +kernel)) rfl, xTB_in (List.mem_of_getElem? (i := 348) (by decide +kernel)) rfl, xTB_in (List.mem_of_getElem? (i := 349) (by decide +kernel)) rfl⟩
theorem k9_71 : xCV 9 71 tX4_areTwoNodes := ⟨xTB_in (List.mem_of_getElem? (i := 351) (by decide +kernel)) rfl, xTB_in (List.mem_of_getElem? (i := 352) (by decide +kernel)) rfl, xTB_in (List.mem_of_getElem? (i := 353) (by decide +kernel)) rfl⟩
theorem k9_75 : xCS 9 75 tX9_isWithin := ⟨xTB_in (List.mem_of_getElem? (i := 358) (by decide +kernel)) rfl, xTB_in (List.mem_of_getElem? (i := 356) (by decide +kernel)) rfl⟩
theorem k9_82 : xCV 9 82 tX4_addArc := ⟨xTB_in (List.mem_of_getElem? (i := 359) (by decide +kernel)) rfl, xTB_in (List.mem_of_getElem? (i := 360) (by decide +kernel)) rfl, xTB_in (List.mem_of_getElem? (i := 361) (by decide +kernel)) rfl⟩
theorem k11_23 : xCV 11 23 tX9_capacity := ⟨xTB_in (List.mem_of_getElem? (i := 363) (by decide +kernel)) rfl, xTB_in (List.mem_of_getElem? (i := 364) (by decide +kernel)) rfl, xTB_in (List.mem_of_getElem? (i := 365) (by decide +kernel)) rfl⟩
theorem k9_86 : xCV 9 86 tX4_isArc := ⟨xTB_in (List.mem_of_getElem? (i := 367) (by decide +kernel)) rfl, xTB_in (List.mem_of_getElem? (i := 368) (by decide +kernel)) rfl, xTB_in (List.mem_of_getElem? (i := 369) (by decide +kernel)) rfl⟩
theorem k11_28 : xCV 11 28 tX9_cost := ⟨xTB_in (List.mem_of_getElem? (i := 371) (by decide +kernel)) rfl, xTB_in (List.mem_of_getElem? (i := 372) (by decide +kernel)) rfl, xTB_in (List.mem_of_getElem? (i := 373) (by decide +kernel)) rfl⟩
theorem k11_32 : xCV 11 32 tX9_good := ⟨xTB_in (List.mem_of_getElem? (i := 375) (by decide +kernel)) rfl, xTB_in (List.mem_of_getElem? (i := 376) (by decide +kernel)) rfl, xTB_in (List.mem_of_getElem? (i := 377) (by decide +kernel)) rfl⟩
theorem k9_102 : xCV 9 102 tX4_addGood := ⟨xTB_in (List.mem_of_getElem? (i := 379) (by decide +kernel)) rfl, xTB_in (List.mem_of_getElem? (i := 380) (by decide +kernel)) rfl, xTB_in (List.mem_of_getElem? (i := 381) (by decide +kernel)) rfl⟩
theorem k11_36 : xCV 11 36 tX9_demand := ⟨xTB_in (List.mem_of_getElem? (i := 383) (by decide +kernel)) rfl, xTB_in (List.mem_of_getElem? (i := 384) (by decide +kernel)) rfl, xTB_in (List.mem_of_getElem? (i := 385) (by decide +kernel)) rfl⟩
theorem k9_105 : xCV 9 105 tX4_isGood := ⟨xTB_in (List.mem_of_getElem? (i := 387) (by decide +kernel)) rfl, xTB_in (List.mem_of_getElem? (i := 388) (by decide +kernel)) rfl, xTB_in (List.mem_of_getElem? (i := 389) (by decide +kernel)) rfl⟩
theorem k11_40 : xCV 11 40 tX9_worth := ⟨xTB_in (List.mem_of_getElem? (i := 391) (by decide +kernel)) rfl, xTB_in (List.mem_of_getElem? (i := 392) (by decide +kernel)) rfl, xTB_in (List.mem_of_getElem? (i := 393) (by decide +kernel)) rfl⟩
theorem k11_44 : xCV 11 44 tX9_ways := ⟨xTB_in (List.mem_of_getElem? (i := 395) (by decide +kernel)) rfl, xTB_in (List.mem_of_getElem? (i := 396) (by decide +kernel)) rfl, xTB_in (List.mem_of_getElem? (i := 397) (by decide +kernel)) rfl⟩
theorem k9_114 : xCV 9 114 tX8_refresh := ⟨xTB_in (List.mem_of_getElem? (i := 399) (by decide +kernel)) rfl, xTB_in (List.mem_of_getElem? (i := 400) (by decide +kernel)) rfl, xTB_in (List.mem_of_getElem? (i := 401) (by decide +kernel)) rfl⟩
theorem k8_41 : xCV 8 41 tX8_measure := ⟨xTB_in (List.mem_of_getElem? (i := 403) (by decide +kernel)) rfl, xTB_in (List.mem_of_getElem? (i := 405) (by decide +kernel)) rfl, xTB_in (List.mem_of_getElem? (i := 0) (by decide +kernel)) rfl⟩
theorem k8_48 : xCV 8 48 tX8_walk := ⟨xTB_in (List.mem_of_getElem? (i := 407) (by decide +kernel)) rfl, xTB_in (List.mem_of_getElem? (i := 409) (by decide +kernel)) rfl, xTB_in (List.mem_of_getElem? (i := 1) (by decide +kernel)) rfl⟩
theorem k8_64 : xCV 8 64 tX7_insert := ⟨xTB_in (List.mem_of_getElem? (i := 411) (by decide +kernel)) rfl, xTB_in (List.mem_of_getElem? (i := 412) (by decide +kernel)) rfl, xTB_in (List.mem_of_getElem? (i := 413) (by decide +kernel)) rfl⟩
theorem k7_25 : Cond.methodLink (xnm 7) 25 Lib.Math.min.name ∈ xTB := xTB_in (List.mem_of_getElem? (i := 415) (by decide +kernel)) rfl
theorem k7_31 : xCV 7 31 tX6_copyFrom := ⟨xTB_in (List.mem_of_getElem? (i := 418) (by decide +kernel)) rfl, xTB_in (List.mem_of_getElem? (i := 419) (by decide +kernel)) rfl, xTB_in (List.mem_of_getElem? (i := 420) (by decide +kernel)) rfl⟩
theorem k8_68 : xCV 8 68 tX8_isWorthwhile := ⟨xTB_in (List.mem_of_getElem? (i := 422) (by decide +kernel)) rfl, xTB_in (List.mem_of_getElem? (i := 424) (by decide +kernel)) rfl, xTB_in (List.mem_of_getElem? (i := 2) (by decide +kernel)) rfl⟩
theorem k8_75 : xCV 8 75 tX7_hasPlaceFor := ⟨xTB_in (List.mem_of_getElem? (i := 426) (by decide +kernel)) rfl, xTB_in (List.mem_of_getElem? (i := 427) (by decide +kernel)) rfl, xTB_in (List.mem_of_getElem? (i := 428) (by decide +kernel)) rfl⟩
theorem k8_72 : xCV 8 72 tX8_follow := ⟨xTB_in (List.mem_of_getElem? (i := 430) (by decide +kernel)) rfl, xTB_in (List.mem_of_getElem? (i := 432) (by decide +kernel)) rfl, xTB_in (List.mem_of_getElem? (i := 3) (by decide +kernel)) rfl⟩
theorem k11_49 : xCV 11 49 tX9_way := ⟨xTB_in (List.mem_of_getElem? (i := 434) (by decide +kernel)) rfl, xTB_in (List.mem_of_getElem? (i := 435) (by decide +kernel)) rfl, xTB_in (List.mem_of_getElem? (i := 436) (by decide +kernel)) rfl⟩
theorem k9_127 : xCV 9 127 tX7_has := ⟨xTB_in (List.mem_of_getElem? (i := 438) (by decide +kernel)) rfl, xTB_in (List.mem_of_getElem? (i := 439) (by decide +kernel)) rfl, xTB_in (List.mem_of_getElem? (i := 440) (by decide +kernel)) rfl⟩
theorem k11_54 : xCV 11 54 tX9_best := ⟨xTB_in (List.mem_of_getElem? (i := 442) (by decide +kernel)) rfl, xTB_in (List.mem_of_getElem? (i := 443) (by decide +kernel)) rfl, xTB_in (List.mem_of_getElem? (i := 444) (by decide +kernel)) rfl⟩
theorem k9_144 : xCV 9 144 tX9_refreshPlan := ⟨xTB_in (List.mem_of_getElem? (i := 446) (by decide +kernel)) rfl, xTB_in (List.mem_of_getElem? (i := 448) (by decide +kernel)) rfl, xTB_in (List.mem_of_getElem? (i := 4) (by decide +kernel)) rfl⟩
theorem k9_217 : xCV 9 217 tX5_findBest := ⟨xTB_in (List.mem_of_getElem? (i := 450) (by decide +kernel)) rfl, xTB_in (List.mem_of_getElem? (i := 451) (by decide +kernel)) rfl, xTB_in (List.mem_of_getElem? (i := 452) (by decide +kernel)) rfl⟩
theorem k5_31 : xCV 5 31 tX5_prepare := ⟨xTB_in (List.mem_of_getElem? (i := 454) (by decide +kernel)) rfl, xTB_in (List.mem_of_getElem? (i := 456) (by decide +kernel)) rfl, xTB_in (List.mem_of_getElem? (i := 5) (by decide +kernel)) rfl⟩
theorem k5_46 : xCV 5 46 tX3_clear := ⟨xTB_in (List.mem_of_getElem? (i := 458) (by decide +kernel)) rfl, xTB_in (List.mem_of_getElem? (i := 459) (by decide +kernel)) rfl, xTB_in (List.mem_of_getElem? (i := 460) (by decide +kernel)) rfl⟩
theorem k5_42 : xCV 5 42 tX5_choose := ⟨xTB_in (List.mem_of_getElem? (i := 462) (by decide +kernel)) rfl, xTB_in (List.mem_of_getElem? (i := 464) (by decide +kernel)) rfl, xTB_in (List.mem_of_getElem? (i := 6) (by decide +kernel)) rfl⟩
theorem k5_74 : xCV 5 74 tX5_mayBeBetter := ⟨xTB_in (List.mem_of_getElem? (i := 466) (by decide +kernel)) rfl, xTB_in (List.mem_of_getElem? (i := 468) (by decide +kernel)) rfl, xTB_in (List.mem_of_getElem? (i := 7) (by decide +kernel)) rfl⟩
theorem k5_78 : xCV 5 78 tX5_keep := ⟨xTB_in (List.mem_of_getElem? (i := 470) (by decide +kernel)) rfl, xTB_in (List.mem_of_getElem? (i := 472) (by decide +kernel)) rfl, xTB_in (List.mem_of_getElem? (i := 8) (by decide +kernel)) rfl⟩
theorem k5_89 : xCV 5 89 tX3_leavesRoomFor := ⟨xTB_in (List.mem_of_getElem? (i := 474) (by decide +kernel)) rfl, xTB_in (List.mem_of_getElem? (i := 475) (by decide +kernel)) rfl, xTB_in (List.mem_of_getElem? (i := 476) (by decide +kernel)) rfl⟩
theorem k5_93 : xCV 5 93 tX5_serve := ⟨xTB_in (List.mem_of_getElem? (i := 478) (by decide +kernel)) rfl, xTB_in (List.mem_of_getElem? (i := 480) (by decide +kernel)) rfl, xTB_in (List.mem_of_getElem? (i := 9) (by decide +kernel)) rfl⟩
theorem k5_100 : xCV 5 100 tX3_add := ⟨xTB_in (List.mem_of_getElem? (i := 482) (by decide +kernel)) rfl, xTB_in (List.mem_of_getElem? (i := 483) (by decide +kernel)) rfl, xTB_in (List.mem_of_getElem? (i := 484) (by decide +kernel)) rfl⟩
theorem k5_97 : xCV 5 97 tX5_leaveOut := ⟨xTB_in (List.mem_of_getElem? (i := 486) (by decide +kernel)) rfl, xTB_in (List.mem_of_getElem? (i := 488) (by decide +kernel)) rfl, xTB_in (List.mem_of_getElem? (i := 10) (by decide +kernel)) rfl⟩
theorem k9_174 : xCV 9 174 tX3_addAll := ⟨xTB_in (List.mem_of_getElem? (i := 490) (by decide +kernel)) rfl, xTB_in (List.mem_of_getElem? (i := 491) (by decide +kernel)) rfl, xTB_in (List.mem_of_getElem? (i := 492) (by decide +kernel)) rfl⟩
theorem k3_24 : xCV 3 24 tX3_clear := ⟨xTB_in (List.mem_of_getElem? (i := 494) (by decide +kernel)) rfl, xTB_in (List.mem_of_getElem? (i := 459) (by decide +kernel)) rfl, xTB_in (List.mem_of_getElem? (i := 460) (by decide +kernel)) rfl⟩
theorem k3_38 : xCV 3 38 tX7_has := ⟨xTB_in (List.mem_of_getElem? (i := 495) (by decide +kernel)) rfl, xTB_in (List.mem_of_getElem? (i := 439) (by decide +kernel)) rfl, xTB_in (List.mem_of_getElem? (i := 440) (by decide +kernel)) rfl⟩
theorem k3_51 : xCV 3 51 tX3_add := ⟨xTB_in (List.mem_of_getElem? (i := 496) (by decide +kernel)) rfl, xTB_in (List.mem_of_getElem? (i := 483) (by decide +kernel)) rfl, xTB_in (List.mem_of_getElem? (i := 484) (by decide +kernel)) rfl⟩
theorem k11_58 : xCV 11 58 tX9_spent := ⟨xTB_in (List.mem_of_getElem? (i := 497) (by decide +kernel)) rfl, xTB_in (List.mem_of_getElem? (i := 498) (by decide +kernel)) rfl, xTB_in (List.mem_of_getElem? (i := 499) (by decide +kernel)) rfl⟩
theorem k11_62 : xCV 11 62 tX9_plan := ⟨xTB_in (List.mem_of_getElem? (i := 501) (by decide +kernel)) rfl, xTB_in (List.mem_of_getElem? (i := 502) (by decide +kernel)) rfl, xTB_in (List.mem_of_getElem? (i := 503) (by decide +kernel)) rfl⟩
theorem k11_66 : xCV 11 66 tX9_load := ⟨xTB_in (List.mem_of_getElem? (i := 505) (by decide +kernel)) rfl, xTB_in (List.mem_of_getElem? (i := 506) (by decide +kernel)) rfl, xTB_in (List.mem_of_getElem? (i := 507) (by decide +kernel)) rfl⟩
theorem k11_70 : xCV 11 70 tX9_price := ⟨xTB_in (List.mem_of_getElem? (i := 509) (by decide +kernel)) rfl, xTB_in (List.mem_of_getElem? (i := 510) (by decide +kernel)) rfl, xTB_in (List.mem_of_getElem? (i := 511) (by decide +kernel)) rfl⟩
theorem k9_159 : xCV 9 159 tX5_mostWorthWithWider := ⟨xTB_in (List.mem_of_getElem? (i := 513) (by decide +kernel)) rfl, xTB_in (List.mem_of_getElem? (i := 514) (by decide +kernel)) rfl, xTB_in (List.mem_of_getElem? (i := 515) (by decide +kernel)) rfl⟩
theorem k11_74 : xCV 11 74 tX9_attempt := ⟨xTB_in (List.mem_of_getElem? (i := 517) (by decide +kernel)) rfl, xTB_in (List.mem_of_getElem? (i := 518) (by decide +kernel)) rfl, xTB_in (List.mem_of_getElem? (i := 519) (by decide +kernel)) rfl⟩
theorem k11_78 : xCV 11 78 tX9_attempted := ⟨xTB_in (List.mem_of_getElem? (i := 521) (by decide +kernel)) rfl, xTB_in (List.mem_of_getElem? (i := 522) (by decide +kernel)) rfl, xTB_in (List.mem_of_getElem? (i := 523) (by decide +kernel)) rfl⟩
theorem k9_163 : xCV 9 163 tX9_areTriedThere := ⟨xTB_in (List.mem_of_getElem? (i := 525) (by decide +kernel)) rfl, xTB_in (List.mem_of_getElem? (i := 527) (by decide +kernel)) rfl, xTB_in (List.mem_of_getElem? (i := 11) (by decide +kernel)) rfl⟩
theorem k9_167 : xCV 9 167 tX9_triedWorth := ⟨xTB_in (List.mem_of_getElem? (i := 529) (by decide +kernel)) rfl, xTB_in (List.mem_of_getElem? (i := 531) (by decide +kernel)) rfl, xTB_in (List.mem_of_getElem? (i := 12) (by decide +kernel)) rfl⟩
theorem k9_171 : xCV 9 171 tX9_triedCost := ⟨xTB_in (List.mem_of_getElem? (i := 533) (by decide +kernel)) rfl, xTB_in (List.mem_of_getElem? (i := 535) (by decide +kernel)) rfl, xTB_in (List.mem_of_getElem? (i := 13) (by decide +kernel)) rfl⟩
theorem k9_178 : xCV 9 178 tX3_firstAbove := ⟨xTB_in (List.mem_of_getElem? (i := 537) (by decide +kernel)) rfl, xTB_in (List.mem_of_getElem? (i := 538) (by decide +kernel)) rfl, xTB_in (List.mem_of_getElem? (i := 539) (by decide +kernel)) rfl⟩
theorem k11_82 : xCV 11 82 tX9_rate := ⟨xTB_in (List.mem_of_getElem? (i := 541) (by decide +kernel)) rfl, xTB_in (List.mem_of_getElem? (i := 542) (by decide +kernel)) rfl, xTB_in (List.mem_of_getElem? (i := 543) (by decide +kernel)) rfl⟩
theorem k9_182 : xCV 9 182 tX9_refreshRates := ⟨xTB_in (List.mem_of_getElem? (i := 545) (by decide +kernel)) rfl, xTB_in (List.mem_of_getElem? (i := 547) (by decide +kernel)) rfl, xTB_in (List.mem_of_getElem? (i := 14) (by decide +kernel)) rfl⟩
theorem k9_221 : xCV 9 221 tX0_refresh := ⟨xTB_in (List.mem_of_getElem? (i := 549) (by decide +kernel)) rfl, xTB_in (List.mem_of_getElem? (i := 550) (by decide +kernel)) rfl, xTB_in (List.mem_of_getElem? (i := 551) (by decide +kernel)) rfl⟩
theorem k0_54 : xCV 0 54 tX0_findTightest := ⟨xTB_in (List.mem_of_getElem? (i := 553) (by decide +kernel)) rfl, xTB_in (List.mem_of_getElem? (i := 555) (by decide +kernel)) rfl, xTB_in (List.mem_of_getElem? (i := 15) (by decide +kernel)) rfl⟩
theorem k0_65 : xCV 0 65 tX0_openUsers := ⟨xTB_in (List.mem_of_getElem? (i := 557) (by decide +kernel)) rfl, xTB_in (List.mem_of_getElem? (i := 559) (by decide +kernel)) rfl, xTB_in (List.mem_of_getElem? (i := 16) (by decide +kernel)) rfl⟩
theorem k0_92 : xCV 0 92 tX6_uses := ⟨xTB_in (List.mem_of_getElem? (i := 561) (by decide +kernel)) rfl, xTB_in (List.mem_of_getElem? (i := 562) (by decide +kernel)) rfl, xTB_in (List.mem_of_getElem? (i := 563) (by decide +kernel)) rfl⟩
theorem k0_69 : xCV 0 69 tX0_setShare := ⟨xTB_in (List.mem_of_getElem? (i := 565) (by decide +kernel)) rfl, xTB_in (List.mem_of_getElem? (i := 567) (by decide +kernel)) rfl, xTB_in (List.mem_of_getElem? (i := 17) (by decide +kernel)) rfl⟩
theorem k0_84 : xCV 0 84 tX2_set := ⟨xTB_in (List.mem_of_getElem? (i := 569) (by decide +kernel)) rfl, xTB_in (List.mem_of_getElem? (i := 570) (by decide +kernel)) rfl, xTB_in (List.mem_of_getElem? (i := 571) (by decide +kernel)) rfl⟩
theorem k2_13 : xCS 2 13 tX2_commonFactor := ⟨xTB_in (List.mem_of_getElem? (i := 573) (by decide +kernel)) rfl, xTB_in (List.mem_of_getElem? (i := 574) (by decide +kernel)) rfl⟩
theorem k0_101 : xCV 0 101 tX2_subtract := ⟨xTB_in (List.mem_of_getElem? (i := 576) (by decide +kernel)) rfl, xTB_in (List.mem_of_getElem? (i := 577) (by decide +kernel)) rfl, xTB_in (List.mem_of_getElem? (i := 578) (by decide +kernel)) rfl⟩
theorem k2_20 : xCV 2 20 tX2_set := ⟨xTB_in (List.mem_of_getElem? (i := 580) (by decide +kernel)) rfl, xTB_in (List.mem_of_getElem? (i := 570) (by decide +kernel)) rfl, xTB_in (List.mem_of_getElem? (i := 571) (by decide +kernel)) rfl⟩
theorem k0_73 : xCV 0 73 tX2_isLessThan := ⟨xTB_in (List.mem_of_getElem? (i := 581) (by decide +kernel)) rfl, xTB_in (List.mem_of_getElem? (i := 582) (by decide +kernel)) rfl, xTB_in (List.mem_of_getElem? (i := 583) (by decide +kernel)) rfl⟩
theorem k0_58 : xCV 0 58 tX0_closeAlong := ⟨xTB_in (List.mem_of_getElem? (i := 585) (by decide +kernel)) rfl, xTB_in (List.mem_of_getElem? (i := 587) (by decide +kernel)) rfl, xTB_in (List.mem_of_getElem? (i := 18) (by decide +kernel)) rfl⟩
theorem k11_86 : xCV 11 86 tX9_bottleneck := ⟨xTB_in (List.mem_of_getElem? (i := 589) (by decide +kernel)) rfl, xTB_in (List.mem_of_getElem? (i := 590) (by decide +kernel)) rfl, xTB_in (List.mem_of_getElem? (i := 591) (by decide +kernel)) rfl⟩
theorem k11_90 : xCV 11 90 tX9_more := ⟨xTB_in (List.mem_of_getElem? (i := 593) (by decide +kernel)) rfl, xTB_in (List.mem_of_getElem? (i := 594) (by decide +kernel)) rfl, xTB_in (List.mem_of_getElem? (i := 595) (by decide +kernel)) rfl⟩
theorem k9_207 : xCV 9 207 tX1_most := ⟨xTB_in (List.mem_of_getElem? (i := 597) (by decide +kernel)) rfl, xTB_in (List.mem_of_getElem? (i := 598) (by decide +kernel)) rfl, xTB_in (List.mem_of_getElem? (i := 599) (by decide +kernel)) rfl⟩
theorem k1_35 : xCV 1 35 tX1_reaches := ⟨xTB_in (List.mem_of_getElem? (i := 601) (by decide +kernel)) rfl, xTB_in (List.mem_of_getElem? (i := 603) (by decide +kernel)) rfl, xTB_in (List.mem_of_getElem? (i := 19) (by decide +kernel)) rfl⟩
theorem k1_43 : xCS 1 43 tX1_startOf := ⟨xTB_in (List.mem_of_getElem? (i := 605) (by decide +kernel)) rfl, xTB_in (List.mem_of_getElem? (i := 606) (by decide +kernel)) rfl⟩
theorem k1_39 : xCV 1 39 tX1_push := ⟨xTB_in (List.mem_of_getElem? (i := 608) (by decide +kernel)) rfl, xTB_in (List.mem_of_getElem? (i := 610) (by decide +kernel)) rfl, xTB_in (List.mem_of_getElem? (i := 20) (by decide +kernel)) rfl⟩
theorem k1_46 : Cond.methodLink (xnm 1) 46 Lib.Math.min.name ∈ xTB := xTB_in (List.mem_of_getElem? (i := 612) (by decide +kernel)) rfl
theorem k11_94 : xCV 11 94 tX9_cut := ⟨xTB_in (List.mem_of_getElem? (i := 613) (by decide +kernel)) rfl, xTB_in (List.mem_of_getElem? (i := 614) (by decide +kernel)) rfl, xTB_in (List.mem_of_getElem? (i := 615) (by decide +kernel)) rfl⟩
theorem k9_211 : xCV 9 211 tX4_isCut := ⟨xTB_in (List.mem_of_getElem? (i := 617) (by decide +kernel)) rfl, xTB_in (List.mem_of_getElem? (i := 618) (by decide +kernel)) rfl, xTB_in (List.mem_of_getElem? (i := 619) (by decide +kernel)) rfl⟩
theorem k4_56 : xCV 4 56 tX4_demandOutOf := ⟨xTB_in (List.mem_of_getElem? (i := 621) (by decide +kernel)) rfl, xTB_in (List.mem_of_getElem? (i := 623) (by decide +kernel)) rfl, xTB_in (List.mem_of_getElem? (i := 21) (by decide +kernel)) rfl⟩
theorem k4_60 : xCS 4 60 tX4_leadsOut := ⟨xTB_in (List.mem_of_getElem? (i := 625) (by decide +kernel)) rfl, xTB_in (List.mem_of_getElem? (i := 626) (by decide +kernel)) rfl⟩
theorem k11_98 : xCV 11 98 tX9_count := ⟨xTB_in (List.mem_of_getElem? (i := 628) (by decide +kernel)) rfl, xTB_in (List.mem_of_getElem? (i := 629) (by decide +kernel)) rfl, xTB_in (List.mem_of_getElem? (i := 630) (by decide +kernel)) rfl⟩
theorem k9_214 : xCS 9 214 tX9_sumOfFirst := ⟨xTB_in (List.mem_of_getElem? (i := 632) (by decide +kernel)) rfl, xTB_in (List.mem_of_getElem? (i := 633) (by decide +kernel)) rfl⟩
theorem k11_12 : xCI 11 12 tX10_init := ⟨xTB_in (List.mem_of_getElem? (i := 637) (by decide +kernel)) rfl, xTB_in (List.mem_of_getElem? (i := 638) (by decide +kernel)) rfl⟩
theorem k10_7 : Cond.methodLink (xnm 10) 7 objectInit ∈ xTB := xTB_in (List.mem_of_getElem? (i := 640) (by decide +kernel)) rfl
theorem k11_17 : xCV 11 17 tX10_node := ⟨xTB_in (List.mem_of_getElem? (i := 721) (by decide +kernel)) rfl, xTB_in (List.mem_of_getElem? (i := 722) (by decide +kernel)) rfl, xTB_in (List.mem_of_getElem? (i := 723) (by decide +kernel)) rfl⟩
theorem k11_22 : xCV 11 22 tX10_arc := ⟨xTB_in (List.mem_of_getElem? (i := 725) (by decide +kernel)) rfl, xTB_in (List.mem_of_getElem? (i := 726) (by decide +kernel)) rfl, xTB_in (List.mem_of_getElem? (i := 727) (by decide +kernel)) rfl⟩
theorem k10_88 : xCV 10 88 tX10_noNode := ⟨xTB_in (List.mem_of_getElem? (i := 729) (by decide +kernel)) rfl, xTB_in (List.mem_of_getElem? (i := 731) (by decide +kernel)) rfl, xTB_in (List.mem_of_getElem? (i := 22) (by decide +kernel)) rfl⟩
theorem k10_78 : xCS 10 78 tX10_in := ⟨xTB_in (List.mem_of_getElem? (i := 733) (by decide +kernel)) rfl, xTB_in (List.mem_of_getElem? (i := 734) (by decide +kernel)) rfl⟩
theorem k10_92 : xCV 10 92 tX10_layWays := ⟨xTB_in (List.mem_of_getElem? (i := 736) (by decide +kernel)) rfl, xTB_in (List.mem_of_getElem? (i := 738) (by decide +kernel)) rfl, xTB_in (List.mem_of_getElem? (i := 23) (by decide +kernel)) rfl⟩
theorem k10_101 : xCS 10 101 tX10_goOn := ⟨xTB_in (List.mem_of_getElem? (i := 740) (by decide +kernel)) rfl, xTB_in (List.mem_of_getElem? (i := 741) (by decide +kernel)) rfl⟩
theorem k10_105 : xCV 10 105 tX10_keep := ⟨xTB_in (List.mem_of_getElem? (i := 743) (by decide +kernel)) rfl, xTB_in (List.mem_of_getElem? (i := 745) (by decide +kernel)) rfl, xTB_in (List.mem_of_getElem? (i := 24) (by decide +kernel)) rfl⟩
theorem k10_109 : xCV 10 109 tX10_isAhead := ⟨xTB_in (List.mem_of_getElem? (i := 747) (by decide +kernel)) rfl, xTB_in (List.mem_of_getElem? (i := 749) (by decide +kernel)) rfl, xTB_in (List.mem_of_getElem? (i := 25) (by decide +kernel)) rfl⟩
theorem k11_27 : xCV 11 27 tX10_capacity := ⟨xTB_in (List.mem_of_getElem? (i := 751) (by decide +kernel)) rfl, xTB_in (List.mem_of_getElem? (i := 752) (by decide +kernel)) rfl, xTB_in (List.mem_of_getElem? (i := 753) (by decide +kernel)) rfl⟩
theorem k10_95 : xCV 10 95 tX10_noArc := ⟨xTB_in (List.mem_of_getElem? (i := 755) (by decide +kernel)) rfl, xTB_in (List.mem_of_getElem? (i := 757) (by decide +kernel)) rfl, xTB_in (List.mem_of_getElem? (i := 26) (by decide +kernel)) rfl⟩
theorem k11_31 : xCV 11 31 tX10_cost := ⟨xTB_in (List.mem_of_getElem? (i := 759) (by decide +kernel)) rfl, xTB_in (List.mem_of_getElem? (i := 760) (by decide +kernel)) rfl, xTB_in (List.mem_of_getElem? (i := 761) (by decide +kernel)) rfl⟩
theorem k11_35 : xCV 11 35 tX10_good := ⟨xTB_in (List.mem_of_getElem? (i := 763) (by decide +kernel)) rfl, xTB_in (List.mem_of_getElem? (i := 764) (by decide +kernel)) rfl, xTB_in (List.mem_of_getElem? (i := 765) (by decide +kernel)) rfl⟩
theorem k11_39 : xCV 11 39 tX10_demand := ⟨xTB_in (List.mem_of_getElem? (i := 767) (by decide +kernel)) rfl, xTB_in (List.mem_of_getElem? (i := 768) (by decide +kernel)) rfl, xTB_in (List.mem_of_getElem? (i := 769) (by decide +kernel)) rfl⟩
theorem k10_98 : xCV 10 98 tX10_noGood := ⟨xTB_in (List.mem_of_getElem? (i := 771) (by decide +kernel)) rfl, xTB_in (List.mem_of_getElem? (i := 773) (by decide +kernel)) rfl, xTB_in (List.mem_of_getElem? (i := 27) (by decide +kernel)) rfl⟩
theorem k11_43 : xCV 11 43 tX10_worth := ⟨xTB_in (List.mem_of_getElem? (i := 775) (by decide +kernel)) rfl, xTB_in (List.mem_of_getElem? (i := 776) (by decide +kernel)) rfl, xTB_in (List.mem_of_getElem? (i := 777) (by decide +kernel)) rfl⟩
theorem k11_48 : xCV 11 48 tX10_ways := ⟨xTB_in (List.mem_of_getElem? (i := 779) (by decide +kernel)) rfl, xTB_in (List.mem_of_getElem? (i := 780) (by decide +kernel)) rfl, xTB_in (List.mem_of_getElem? (i := 781) (by decide +kernel)) rfl⟩
theorem k11_53 : xCV 11 53 tX10_way := ⟨xTB_in (List.mem_of_getElem? (i := 783) (by decide +kernel)) rfl, xTB_in (List.mem_of_getElem? (i := 784) (by decide +kernel)) rfl, xTB_in (List.mem_of_getElem? (i := 785) (by decide +kernel)) rfl⟩
theorem k11_57 : xCV 11 57 tX10_best := ⟨xTB_in (List.mem_of_getElem? (i := 787) (by decide +kernel)) rfl, xTB_in (List.mem_of_getElem? (i := 788) (by decide +kernel)) rfl, xTB_in (List.mem_of_getElem? (i := 789) (by decide +kernel)) rfl⟩
theorem k10_129 : xCV 10 129 tX10_findBest := ⟨xTB_in (List.mem_of_getElem? (i := 791) (by decide +kernel)) rfl, xTB_in (List.mem_of_getElem? (i := 793) (by decide +kernel)) rfl, xTB_in (List.mem_of_getElem? (i := 28) (by decide +kernel)) rfl⟩
theorem k10_125 : xCS 10 125 tX10_plans := ⟨xTB_in (List.mem_of_getElem? (i := 795) (by decide +kernel)) rfl, xTB_in (List.mem_of_getElem? (i := 796) (by decide +kernel)) rfl⟩
theorem k10_118 : xCV 10 118 tX10_fits := ⟨xTB_in (List.mem_of_getElem? (i := 798) (by decide +kernel)) rfl, xTB_in (List.mem_of_getElem? (i := 800) (by decide +kernel)) rfl, xTB_in (List.mem_of_getElem? (i := 29) (by decide +kernel)) rfl⟩
theorem k10_122 : xCV 10 122 tX10_load := ⟨xTB_in (List.mem_of_getElem? (i := 802) (by decide +kernel)) rfl, xTB_in (List.mem_of_getElem? (i := 804) (by decide +kernel)) rfl, xTB_in (List.mem_of_getElem? (i := 30) (by decide +kernel)) rfl⟩
theorem k11_61 : xCV 11 61 tX10_spent := ⟨xTB_in (List.mem_of_getElem? (i := 806) (by decide +kernel)) rfl, xTB_in (List.mem_of_getElem? (i := 807) (by decide +kernel)) rfl, xTB_in (List.mem_of_getElem? (i := 808) (by decide +kernel)) rfl⟩
theorem k11_65 : xCV 11 65 tX10_plan := ⟨xTB_in (List.mem_of_getElem? (i := 810) (by decide +kernel)) rfl, xTB_in (List.mem_of_getElem? (i := 811) (by decide +kernel)) rfl, xTB_in (List.mem_of_getElem? (i := 812) (by decide +kernel)) rfl⟩
theorem k11_69 : xCV 11 69 tX10_load_ := ⟨xTB_in (List.mem_of_getElem? (i := 814) (by decide +kernel)) rfl, xTB_in (List.mem_of_getElem? (i := 815) (by decide +kernel)) rfl, xTB_in (List.mem_of_getElem? (i := 816) (by decide +kernel)) rfl⟩
theorem k10_135 : xCV 10 135 tX10_loadOf := ⟨xTB_in (List.mem_of_getElem? (i := 818) (by decide +kernel)) rfl, xTB_in (List.mem_of_getElem? (i := 820) (by decide +kernel)) rfl, xTB_in (List.mem_of_getElem? (i := 31) (by decide +kernel)) rfl⟩
theorem k10_132 : xCV 10 132 tX10_hasArc := ⟨xTB_in (List.mem_of_getElem? (i := 822) (by decide +kernel)) rfl, xTB_in (List.mem_of_getElem? (i := 824) (by decide +kernel)) rfl, xTB_in (List.mem_of_getElem? (i := 32) (by decide +kernel)) rfl⟩
theorem k11_73 : xCV 11 73 tX10_price := ⟨xTB_in (List.mem_of_getElem? (i := 826) (by decide +kernel)) rfl, xTB_in (List.mem_of_getElem? (i := 827) (by decide +kernel)) rfl, xTB_in (List.mem_of_getElem? (i := 828) (by decide +kernel)) rfl⟩
theorem k11_77 : xCV 11 77 tX10_attempt := ⟨xTB_in (List.mem_of_getElem? (i := 830) (by decide +kernel)) rfl, xTB_in (List.mem_of_getElem? (i := 831) (by decide +kernel)) rfl, xTB_in (List.mem_of_getElem? (i := 832) (by decide +kernel)) rfl⟩
theorem k11_81 : xCV 11 81 tX10_attempted := ⟨xTB_in (List.mem_of_getElem? (i := 834) (by decide +kernel)) rfl, xTB_in (List.mem_of_getElem? (i := 835) (by decide +kernel)) rfl, xTB_in (List.mem_of_getElem? (i := 836) (by decide +kernel)) rfl⟩
theorem k11_85 : xCV 11 85 tX10_rate := ⟨xTB_in (List.mem_of_getElem? (i := 838) (by decide +kernel)) rfl, xTB_in (List.mem_of_getElem? (i := 839) (by decide +kernel)) rfl, xTB_in (List.mem_of_getElem? (i := 840) (by decide +kernel)) rfl⟩
theorem k10_143 : xCV 10 143 tX10_findRates := ⟨xTB_in (List.mem_of_getElem? (i := 842) (by decide +kernel)) rfl, xTB_in (List.mem_of_getElem? (i := 844) (by decide +kernel)) rfl, xTB_in (List.mem_of_getElem? (i := 33) (by decide +kernel)) rfl⟩
theorem k10_139 : xCS 10 139 tX10_common := ⟨xTB_in (List.mem_of_getElem? (i := 846) (by decide +kernel)) rfl, xTB_in (List.mem_of_getElem? (i := 847) (by decide +kernel)) rfl⟩
theorem k11_89 : xCV 11 89 tX10_bottleneck := ⟨xTB_in (List.mem_of_getElem? (i := 849) (by decide +kernel)) rfl, xTB_in (List.mem_of_getElem? (i := 850) (by decide +kernel)) rfl, xTB_in (List.mem_of_getElem? (i := 851) (by decide +kernel)) rfl⟩
theorem k11_93 : xCV 11 93 tX10_more := ⟨xTB_in (List.mem_of_getElem? (i := 853) (by decide +kernel)) rfl, xTB_in (List.mem_of_getElem? (i := 854) (by decide +kernel)) rfl, xTB_in (List.mem_of_getElem? (i := 855) (by decide +kernel)) rfl⟩
theorem k10_146 : xCS 10 146 tX10_has := ⟨xTB_in (List.mem_of_getElem? (i := 857) (by decide +kernel)) rfl, xTB_in (List.mem_of_getElem? (i := 858) (by decide +kernel)) rfl⟩
theorem k11_97 : xCV 11 97 tX10_cut := ⟨xTB_in (List.mem_of_getElem? (i := 860) (by decide +kernel)) rfl, xTB_in (List.mem_of_getElem? (i := 861) (by decide +kernel)) rfl, xTB_in (List.mem_of_getElem? (i := 862) (by decide +kernel)) rfl⟩
theorem k11_101 : xCV 11 101 tX10_count := ⟨xTB_in (List.mem_of_getElem? (i := 864) (by decide +kernel)) rfl, xTB_in (List.mem_of_getElem? (i := 865) (by decide +kernel)) rfl, xTB_in (List.mem_of_getElem? (i := 866) (by decide +kernel)) rfl⟩
theorem k9_11 : xCN 9 11 tX4_init "ManyGoods" := List.mem_of_getElem? (i := 0) rfl
theorem k7_17 : xCN 7 17 tX6_init "ManyGoods" := List.mem_of_getElem? (i := 1) rfl
theorem k9_25 : xCN 9 25 tX5_init "ManyGoods" := List.mem_of_getElem? (i := 2) rfl
theorem k5_26 : xCN 5 26 tX3_init "ManyGoods" := List.mem_of_getElem? (i := 3) rfl
theorem k9_35 : xCN 9 35 tX3_init "ManyGoods" := List.mem_of_getElem? (i := 4) rfl
theorem k0_25 : xCN 0 25 tX2_init "ManyGoods" := List.mem_of_getElem? (i := 5) rfl
theorem k9_56 : xCN 9 56 tX1_init "ManyGoods" := List.mem_of_getElem? (i := 6) rfl
theorem k4_40 : xCN 4 40 tX9_isWithin "ManyGoods" := List.mem_of_getElem? (i := 7) rfl
theorem nX9_isWithin : Cond.static tX9_isWithin.2.1 ∈ xTB := xTB_in (List.mem_of_getElem? (i := 356) (by decide +kernel)) rfl
theorem nX1_init : Cond.instanceMethod tX1_init.2.1 ∈ xTB := xTB_in (List.mem_of_getElem? (i := 299) (by decide +kernel)) rfl
theorem nX2_init : Cond.instanceMethod tX2_init.2.1 ∈ xTB := xTB_in (List.mem_of_getElem? (i := 260) (by decide +kernel)) rfl
theorem nX3_init : Cond.instanceMethod tX3_init.2.1 ∈ xTB := xTB_in (List.mem_of_getElem? (i := 214) (by decide +kernel)) rfl
theorem nX4_init : Cond.instanceMethod tX4_init.2.1 ∈ xTB := xTB_in (List.mem_of_getElem? (i := 58) (by decide +kernel)) rfl
theorem nX5_init : Cond.instanceMethod tX5_init.2.1 ∈ xTB := xTB_in (List.mem_of_getElem? (i := 208) (by decide +kernel)) rfl
theorem nX6_init : Cond.instanceMethod tX6_init.2.1 ∈ xTB := xTB_in (List.mem_of_getElem? (i := 153) (by decide +kernel)) rfl
theorem xob1 : Cond.instanceMethod objectInit ∈ xTB := xTB_in (List.mem_of_getElem? (i := 53) (by decide +kernel)) rfl
set_option maxRecDepth 20000 in
theorem xob2 : Cond.code objectInit ⟨#[0xb1]⟩ 1 none ∈ xTB := xTB_in (List.mem_of_getElem? (i := 54) (by rfl)) rfl
end
section
/-! THE ABSTRACT MACHINE: worlds are functions from places to typed cells; the cell of place p stands at address z + p; every method's contract (xM) and every point of a walk (xX) speaks of places alone. -/
abbrev xE : Type := Nat × (List Int32 ⊕ List Int64 ⊕ List (Option Nat) ⊕ List Value)
abbrev xW : Type := Nat → Option xE
abbrev xL : Type := List (Nat × Value)
def xv (z : Nat) : Value → Value
  | .ref p => .ref (z + p)
  | v => v
def xrf (z : Nat) : Option Nat → Value
  | none => .null
  | some p => .ref (z + p)
def xrv : Option Nat → Value
  | none => .null
  | some p => .ref p
theorem xv_rv (z : Nat) (o : Option Nat) : xv z (xrv o) = xrf z o := by cases o <;> rfl
theorem xv_cat (z : Nat) (v : Value) : (xv z v).category = v.category := by cases v <;> rfl
def xup (ws : xW) (p : Nat) (c : xE) : xW := fun q => if q = p then some c else ws q
theorem xup_self (ws : xW) (p : Nat) (c : xE) : xup ws p c p = some c := by simp [xup]
theorem xup_ne (ws : xW) {p q : Nat} (c : xE) (h : q ≠ p) : xup ws p c q = ws q := by simp [xup, h]
theorem xup_xup (ws : xW) (p : Nat) (c d : xE) : xup (xup ws p c) p d = xup ws p d := by
  funext q; by_cases h : q = p <;> simp [xup, h]
theorem xup_id {ws : xW} {p : Nat} {c : xE} (h : ws p = some c) : xup ws p c = ws := by
  funext q; by_cases hq : q = p
  · subst hq; simp [xup, h]
  · simp [xup, hq]
theorem xup_comm (ws : xW) {p q : Nat} (c d : xE) (h : p ≠ q) : xup (xup ws p c) q d = xup (xup ws q d) p c := by
  funext r; by_cases h1 : r = p <;> by_cases h2 : r = q <;> simp [xup, h1, h2]
  · subst h1; exact absurd h2 h
  · subst h1; simp [h]
  · subst h2; simp [Ne.symm h]
/-- a cell of the heap -/
def xat (G : va_G) (tc : Nat → ClassId) (z a : Nat) (c : xE) (H : Heap) : Prop := match c.2 with
  | .inl l => H[a]? = some (arrV (tc c.1) l.length (fun j => .int (l.getD j 0)))
  | .inr (.inl l) => H[a]? = some (arrV (tc c.1) l.length (fun j => .long (l.getD j 0)))
  | .inr (.inr (.inl l)) => H[a]? = some (arrV (tc c.1) l.length (fun j => xrf z (l.getD j none)))
  | .inr (.inr (.inr vs)) => ∃ r : vw_C, vwCl[c.1]? = some r ∧ vs.length = r.2.2 ∧ t_OB a (G.1 c.1) r.2.2 (G.2 c.1) H (fun k => xv z (vs.getD k .null))
def xR (G : va_G) (tc : Nat → ClassId) (z n : Nat) (ws : xW) (H : Heap) : Prop := H.size = z + n ∧ ∀ (p : Nat) (c : xE), ws p = some c → xat G tc z (z + p) c H
theorem xat.kept {G : va_G} {tc : Nat → ClassId} {z a : Nat} {c : xE} {H H1 : Heap} (h : xat G tc z a c H) (hq : H1[a]? = H[a]?) : xat G tc z a c H1 := by
  obtain ⟨k, l | l | l | vs⟩ := c
  · exact hq.trans h
  · exact hq.trans h
  · exact hq.trans h
  · obtain ⟨r, h1, h2, h3⟩ := h
    exact ⟨r, h1, h2, h3.kept hq⟩
theorem xat.lt {G : va_G} {tc : Nat → ClassId} {z a : Nat} {c : xE} {H : Heap} (h : xat G tc z a c H) : a < H.size := by
  obtain ⟨k, l | l | l | vs⟩ := c
  · exact (Array.getElem?_eq_some_iff.mp h).1
  · exact (Array.getElem?_eq_some_iff.mp h).1
  · exact (Array.getElem?_eq_some_iff.mp h).1
  · obtain ⟨r, h1, h2, cell, h3, -⟩ := h
    exact (Array.getElem?_eq_some_iff.mp h3).1
theorem xR.set {G : va_G} {tc : Nat → ClassId} {z n p : Nat} {ws : xW} {c : xE} {H H1 : Heap} (h : xR G tc z n ws H) (hs : H1.size = H.size) (hq : ∀ q : Nat, q ≠ z + p → H1[q]? = H[q]?) (hc : xat G tc z (z + p) c H1) : xR G tc z n (xup ws p c) H1 := by
  refine ⟨hs.trans h.1, fun q d hd => ?_⟩
  by_cases e : q = p
  · subst e
    rw [xup_self] at hd
    cases hd
    exact hc
  · rw [xup_ne _ _ e] at hd
    exact (h.2 q d hd).kept (hq (z + q) (by omega))
theorem xR.push {G : va_G} {tc : Nat → ClassId} {z n : Nat} {ws : xW} {c : xE} {H H1 : Heap} (h : xR G tc z n ws H) (hs : H1.size = H.size + 1) (hq : ∀ q : Nat, q < H.size → H1[q]? = H[q]?) (hc : xat G tc z H.size c H1) : xR G tc z (n + 1) (xup ws n c) H1 := by
  refine ⟨by rw [hs, h.1]; omega, fun q d hd => ?_⟩
  by_cases e : q = n
  · subst e
    rw [xup_self] at hd
    cases hd
    rw [h.1] at hc
    exact hc
  · rw [xup_ne _ _ e] at hd
    exact (h.2 q d hd).kept (hq _ (h.2 q d hd).lt)
/-- array classes by number: int, boolean, long, Way, WayList, Fraction -/
def xtys (tc : Nat → ClassId) : List (ClassId × FieldType) := [(tc 0, .int), (tc 1, .boolean), (tc 2, .long), (tc 3, .object RX6), (tc 4, .object RX7), (tc 5, .object RX2)]
def xAOs : List String := [RX6, RX7, RX2]
def xK (G : va_G) (tc : Nat → ClassId) (U : State) : Prop := va_K G vwCl (xtys tc) U ∧ (∀ C ∈ xAOs, va_AO C U) ∧ ∀ q ∈ xnest, va_Nw (.methodLinkNest q.1 q.2.1 q.2.2.1 q.2.2.2) U
theorem xK.warm {G : va_G} {tc : Nat → ClassId} {s U : State} (hW : s.WarmedH U.vm) (h : xK G tc s) : xK G tc U :=
  ⟨va_K.moved hW.alike h.1, fun C hC => va_AO.moved hW.alike (h.2.1 C hC), fun q hq => va_Nw.warmM hW (h.2.2 q hq)⟩
theorem xK.same {G : va_G} {tc : Nat → ClassId} {s U : State} (hv : s.vm = U.vm) (h : xK G tc s) : xK G tc U :=
  ⟨va_K.moved (by rw [hv]; exact Vm.Alike.refl U.vm) h.1, fun C hC => va_AO.moved (by rw [hv]; exact Vm.Alike.refl U.vm) (h.2.1 C hC), fun q hq => va_Nw.same rfl hv (h.2.2 q hq)⟩
def xws (t : xT) : List Cond := .code t.2.1 t.2.2.1 t.2.2.2.1 t.2.2.2.2 :: xTB
def xrm (d mc ms : Nat) : Room := { frames := d, cells := mc, slots := ms, locals := 48 * d }
abbrev xP : Type := Option Value → Nat → xW → Prop
def xQ (G : va_G) (tc : Nat → ClassId) (z : Nat) (Q : xP) : Array Value → State → Outcome → State → Prop := fun _ st o t => (∃ (r : Option Value) (n : Nat) (ws : xW), o = .returned (r.map (xv z)) ∧ Q r n ws ∧ xR G tc z n ws t.heap) ∧ va_F (fun q => z ≤ q) st t
/-- a method's contract at the world ws of n cells, depth d below it, mc cells of ms slots made -/
def xM (l : Launch) (t : xT) (d mc ms : Nat) (As : List Value) (n : Nat) (ws : xW) (Q : xP) : Prop := ∀ (G : va_G) (tc : Nat → ClassId) (z : Nat), Met l t.2.1 (xws t) (xrm d mc ms) (va_Pc (As.map (xv z)) (fun U => xR G tc z n ws U.heap ∧ xK G tc U)) (xQ G tc z Q) mc ms (fun q => z ≤ q)
def xC (t : xT) (G : va_G) (tc : Nat → ClassId) (z : Nat) (p : Program) (s : State) (m : MethodId) (args : Array Value) (meth : Method) (c : Code) : Prop :=
  p.tables.exec = Jvm.exec ∧ c.code = t.2.2.1 ∧ meth.sig.returnType = t.2.2.2.2 ∧ c.maxLocals = t.2.2.2.1 ∧ s.vm.findClass t.2.1.cls = some m.cls ∧ (∀ w ∈ xTB, w.before args s = true) ∧ meth.locks = false ∧ meth.name = t.2.1.name ∧ xK G tc s ∧ z ≤ s.heap.size
/-- a point of a walk: program counter, locals, stack, world; kc cells and ks slots may still be made -/
def xX (l : Launch) (t : xT) (d mc ms : Nat) (Q : xP) (kc ks pc : Nat) (L : xL) (st : List Value) (n : Nat) (ws : xW) : Prop :=
  ∀ (G : va_G) (tc : Nat → ClassId) (z : Nat) (p : Program) (e : Env) (s : State) (m : MethodId) (args : Array Value) (below : List Frame) (meth : Method) (c : Code) (H : Heap) (locs : List Loc) (cells slots : Nat) (ls : Array Slot),
    xC t G tc z p s m args meth c → xR G tc z n ws H → va_S (fun q => z ≤ q) s.heap H locs → lv_has ls t.2.2.2.1 (L.map fun q => (q.1, xv z q.2)) → cells + kc ≤ mc → slots + ks ≤ ms →
    W p l e (xrm d mc ms) s m args below meth c H locs cells slots (MQ below (xQ G tc z Q) args s mc ms (fun q => z ≤ q)) (F0 m pc ls (st.map (xv z)))
theorem xargs (z : Nat) : ∀ (vs : List Value) (i : Nat), lv_args i (vs.map (xv z)) = (lv_args i vs).map fun q => (q.1, xv z q.2)
  | [], i => rfl
  | v :: vs, i => by
    simp only [List.map_cons, lv_args, xv_cat]
    rw [xargs z vs]
theorem xsl_len (z : Nat) : ∀ (vs : List Value), (lg_sl (vs.map (xv z))).length = (lg_sl vs).length
  | [] => rfl
  | v :: vs => by
    have ih := xsl_len z vs
    simp only [lg_sl, List.map_cons, List.flatMap_cons, List.length_append, xv_cat] at ih ⊢
    by_cases h : v.category = 2
    · simp only [h, if_pos]; rw [ih]; rfl
    · simp only [if_neg h]; rw [ih]; rfl
theorem xM.of {l : Launch} {t : xT} {d mc ms : Nat} {As : List Value} {n : Nat} {ws : xW} {Q : xP} (hy : plainName t.2.1.cls = true) (hlen : (lg_sl As).length ≤ t.2.2.2.1) (h : xX l t d mc ms Q mc ms 0 (lv_args 0 As) [] n ws) : xM l t d mc ms As n ws Q := by
  intro G tc z
  refine Met.ofW (cc := t.2.2.1) (maxL := t.2.2.2.1) (ret := t.2.2.2.2) hy rfl ?_
  intro p e s m args below meth c s₁ B hml hv
  obtain ⟨rfl, hR, hK⟩ := hv
  have hts : ∀ w ∈ xws t, w.before _ s = true := atoms_spec (ws := xws t) B.pre
  have hown : s.vm.findClass t.2.1.cls = some m.cls := findClass_of_methodNamed B.named
  have hnm : meth.name = t.2.1.name := (name_of_methodNamed B.named B.method).1
  have hl := lv_entry (As.map (xv z)) (n := t.2.2.2.1) (by rw [xsl_len]; exact hlen)
  rw [lg_entry_eq]
  rw [xargs] at hl
  exact h G tc z p e s m _ below meth c s.heap [] 0 0 _ ⟨B.exec, B.bytes, B.returns, hml, hown, fun w hw => hts w (List.mem_cons_of_mem _ hw), B.notSynchronized, hnm, hK, by rw [hR.1]; exact Nat.le_add_right _ _⟩ hR va_S.rf hl (by omega) (by omega)
theorem xM.mono {l : Launch} {t : xT} {d mc ms : Nat} {As : List Value} {n : Nat} {ws : xW} {Q Q' : xP} (h : xM l t d mc ms As n ws Q) (hq : ∀ r k u, Q r k u → Q' r k u) : xM l t d mc ms As n ws Q' := by
  intro G tc z p e ha hc hk s m args below hf happ hP hK
  obtain ⟨k, o, h1, h2, h3, ⟨⟨r, n1, u, e1, e2, e3⟩, hF⟩, L, h5⟩ := h G tc z p e ha hc hk s m args below hf happ hP hK
  exact ⟨k, o, h1, h2, h3, ⟨⟨r, n1, u, e1, hq _ _ _ e2, e3⟩, hF⟩, L, h5⟩
/-! THE STEPS of the abstract machine -/
def xl (L : xL) (i : Nat) : Option Value := (L.find? (fun q => q.1 == i)).map (fun q => q.2)
def xst (L : xL) (i : Nat) (v : Value) : xL := (i, v) :: L.filter (fun q => !(q.1 == i) && !(q.1 + 1 == i && q.2.category == 2))
def xst2 (L : xL) (i : Nat) (v : Value) : xL := (i, v) :: L.filter (fun q => !(q.1 == i) && (!(q.1 == i + 1) && !(q.1 + 1 == i && q.2.category == 2)))
theorem xl_at {ls : Array Slot} {nL z i : Nat} {L : xL} {v : Value} (h : lv_has ls nL (L.map fun q => (q.1, xv z q.2))) (hv : xl L i = some v) : ls[i]? = some (.val (xv z v)) := by
  unfold xl at hv
  cases hf : L.find? (fun q => q.1 == i) with
  | none => rw [hf] at hv; cases hv
  | some q =>
    rw [hf] at hv
    cases hv
    have h1 := List.find?_some hf
    have h2 : q.1 = i := by simpa using h1
    have h3 := h.2.2 (q.1, xv z q.2) (List.mem_map.mpr ⟨q, List.mem_of_find?_eq_some hf, rfl⟩)
    rw [← h2]
    exact h3
theorem xst_map (z : Nat) (L : xL) (i : Nat) (v : Value) : (xst L i v).map (fun q => (q.1, xv z q.2)) = (i, xv z v) :: (L.map fun q => (q.1, xv z q.2)).filter (fun q => !(q.1 == i) && !(q.1 + 1 == i && q.2.category == 2)) := by
  simp only [xst, List.map_cons, List.filter_map]
  congr 2
  apply List.filter_congr
  intro q _
  simp [xv_cat]
theorem xst2_map (z : Nat) (L : xL) (i : Nat) (v : Value) : (xst2 L i v).map (fun q => (q.1, xv z q.2)) = (i, xv z v) :: (L.map fun q => (q.1, xv z q.2)).filter (fun q => !(q.1 == i) && (!(q.1 == i + 1) && !(q.1 + 1 == i && q.2.category == 2))) := by
  simp only [xst2, List.map_cons, List.filter_map]
  congr 2
  apply List.filter_congr
  intro q _
  simp [xv_cat]
def xcn (c : ClassFile.Cond) (x y : Int32) : Prop := match c with
  | .eq => x = y
  | .ne => ¬ x = y
  | .lt => x < y
  | .ge => y ≤ x
  | .gt => y < x
  | .le => x ≤ y
def xlen : Instr → Nat
  | .bipush _ => 2 | .sipush _ => 3 | .iload _ => 2 | .lload _ => 2 | .aload _ => 2 | .istore _ => 2 | .lstore _ => 2 | .astore _ => 2 | .iinc _ _ => 3
  | .ifCond _ _ => 3 | .if_icmp _ _ => 3 | .goto _ => 3 | .getfield _ => 3 | .putfield _ => 3 | .new _ => 3 | .newarray _ => 2 | .anewarray _ => 3
  | _ => 1
abbrev xO : Type := Instr × Nat × Nat
def xtgt (pc : Nat) (off : Int) : Nat := ((pc : Int) + off).toNat
def xret (rt : Option FieldType) (x : Int32) : Prop := match rt with
  | some .int => True
  | some .boolean => x = 0 ∨ x = 1
  | _ => False
/-- the kind of a field: 0 int, 1 long, 2 reference -/
def xfit (a b : Nat) (v : Value) : Prop := match v with
  | .int _ => xtc a b = 0
  | .long _ => xtc a b = 1
  | .ref _ => xtc a b = 2
  | _ => False
def xdf (a : Nat) : List Value := (xtcs.getD a []).map fun k => match k with | 0 => .int 0 | 1 => .long 0 | _ => .null
def xnk (t : ArrayType) : Option Nat := match t with | .int => some 0 | .boolean => some 1 | .long => some 2 | _ => none
abbrev xKt : Type := Nat → Nat → xL → List Value → Nat → xW → Prop
abbrev xXt : Type := Nat → Nat → Nat → xL → List Value → Nat → xW → Prop
def xs (X : xXt) (Q : xP) (rt : Option FieldType) (K : xKt) (op : xO) (pc kc ks : Nat) (L : xL) (st : List Value) (n : Nat) (ws : xW) : Prop :=
  match op.1 with
  | .iconst v => K kc ks L (.int (Int32.ofInt v) :: st) n ws
  | .bipush v => K kc ks L (.int (Int8.ofInt v).toInt32 :: st) n ws
  | .sipush v => K kc ks L (.int (Int16.ofInt v).toInt32 :: st) n ws
  | .lconst v => K kc ks L (.long (Int64.ofNat (v : Nat)) :: st) n ws
  | .iload_n i => match xl L i with | some (.int x) => K kc ks L (.int x :: st) n ws | _ => False
  | .iload i => match xl L i with | some (.int x) => K kc ks L (.int x :: st) n ws | _ => False
  | .lload_n i => match xl L i with | some (.long x) => K kc ks L (.long x :: st) n ws | _ => False
  | .lload i => match xl L i with | some (.long x) => K kc ks L (.long x :: st) n ws | _ => False
  | .aload_n i => match xl L i with | some (.ref x) => K kc ks L (.ref x :: st) n ws | _ => False
  | .aload i => match xl L i with | some (.ref x) => K kc ks L (.ref x :: st) n ws | _ => False
  | .istore_n i => match st with | .int x :: r => K kc ks (xst L i (.int x)) r n ws | _ => False
  | .istore i => match st with | .int x :: r => K kc ks (xst L i (.int x)) r n ws | _ => False
  | .lstore_n i => match st with | .long x :: r => K kc ks (xst2 L i (.long x)) r n ws | _ => False
  | .lstore i => match st with | .long x :: r => K kc ks (xst2 L i (.long x)) r n ws | _ => False
  | .astore_n i => match st with | .ref x :: r => K kc ks (xst L i (.ref x)) r n ws | _ => False
  | .astore i => match st with | .ref x :: r => K kc ks (xst L i (.ref x)) r n ws | _ => False
  | .iinc i v => match xl L i with | some (.int x) => K kc ks (xst L i (.int (x + Int32.ofInt v))) st n ws | _ => False
  | .iadd => match st with | .int y :: .int x :: r => K kc ks L (.int (x + y) :: r) n ws | _ => False
  | .isub => match st with | .int y :: .int x :: r => K kc ks L (.int (x - y) :: r) n ws | _ => False
  | .imul => match st with | .int y :: .int x :: r => K kc ks L (.int (x * y) :: r) n ws | _ => False
  | .iand => match st with | .int y :: .int x :: r => K kc ks L (.int (x &&& y) :: r) n ws | _ => False
  | .ior => match st with | .int y :: .int x :: r => K kc ks L (.int (x ||| y) :: r) n ws | _ => False
  | .ixor => match st with | .int y :: .int x :: r => K kc ks L (.int (x ^^^ y) :: r) n ws | _ => False
  | .ishl => match st with | .int y :: .int x :: r => K kc ks L (.int (x <<< (y &&& 31)) :: r) n ws | _ => False
  | .ishr => match st with | .int y :: .int x :: r => K kc ks L (.int (x >>> (y &&& 31)) :: r) n ws | _ => False
  | .ineg => match st with | .int x :: r => K kc ks L (.int (-x) :: r) n ws | _ => False
  | .ladd => match st with | .long y :: .long x :: r => K kc ks L (.long (x + y) :: r) n ws | _ => False
  | .lsub => match st with | .long y :: .long x :: r => K kc ks L (.long (x - y) :: r) n ws | _ => False
  | .lmul => match st with | .long y :: .long x :: r => K kc ks L (.long (x * y) :: r) n ws | _ => False
  | .ldiv => match st with | .long y :: .long x :: r => ¬ y = 0 ∧ K kc ks L (.long (x / y) :: r) n ws | _ => False
  | .lrem => match st with | .long y :: .long x :: r => ¬ y = 0 ∧ K kc ks L (.long (x - x / y * y) :: r) n ws | _ => False
  | .lcmp => match st with | .long y :: .long x :: r => K kc ks L (.int (lg_cmp x y) :: r) n ws | _ => False
  | .i2l => match st with | .int x :: r => K kc ks L (.long x.toInt64 :: r) n ws | _ => False
  | .l2i => match st with | .long x :: r => K kc ks L (.int x.toInt32 :: r) n ws | _ => False
  | .dup => match st with | v :: r => v.category = 1 ∧ K kc ks L (v :: v :: r) n ws | _ => False
  | .dup_x1 => match st with | v :: w :: r => v.category = 1 ∧ w.category = 1 ∧ K kc ks L (v :: w :: v :: r) n ws | _ => False
  | .dup2 => match st with | v :: w :: r => v.category = 1 ∧ w.category = 1 ∧ K kc ks L (v :: w :: v :: w :: r) n ws | _ => False
  | .ifCond c off => match st with | .int x :: r => (xcn c x 0 → X kc ks op.2.1 L r n ws) ∧ (¬ xcn c x 0 → K kc ks L r n ws) | _ => False
  | .if_icmp c off => match st with | .int y :: .int x :: r => (xcn c x y → X kc ks op.2.1 L r n ws) ∧ (¬ xcn c x y → K kc ks L r n ws) | _ => False
  | .goto off => X kc ks op.2.1 L st n ws
  | .ireturn => match st with | [.int x] => xret rt x ∧ Q (some (.int x)) n ws | _ => False
  | .lreturn => match st with | [.long x] => rt = some .long ∧ Q (some (.long x)) n ws | _ => False
  | .return_ => match st with | [] => rt = none ∧ Q none n ws | _ => False
  | .getfield _ => match st with
    | .ref p :: r => match ws p with
      | some (c, .inr (.inr (.inr vs))) => c = op.2.1 ∧ match vs[op.2.2]? with | some v => K kc ks L (v :: r) n ws | none => False
      | _ => False
    | _ => False
  | .putfield _ => match st with
    | v :: .ref p :: r => match ws p with
      | some (c, .inr (.inr (.inr vs))) => c = op.2.1 ∧ xfit op.2.1 op.2.2 v ∧ op.2.2 < vs.length ∧ K kc ks L r n (xup ws p (c, .inr (.inr (.inr (vs.set op.2.2 v)))))
      | _ => False
    | _ => False
  | .iaload => match st with
    | .int i :: .ref p :: r => match ws p with
      | some (c, .inl l) => c = 0 ∧ vp_in i l.length ∧ K kc ks L (.int (l.getD i.toNatClampNeg 0) :: r) n ws
      | _ => False
    | _ => False
  | .baload => match st with
    | .int i :: .ref p :: r => match ws p with
      | some (c, .inl l) => c = 1 ∧ vp_in i l.length ∧ K kc ks L (.int (l.getD i.toNatClampNeg 0) :: r) n ws
      | _ => False
    | _ => False
  | .laload => match st with
    | .int i :: .ref p :: r => match ws p with
      | some (c, .inr (.inl l)) => c = 2 ∧ vp_in i l.length ∧ K kc ks L (.long (l.getD i.toNatClampNeg 0) :: r) n ws
      | _ => False
    | _ => False
  | .aaload => match st with
    | .int i :: .ref p :: r => match ws p with
      | some (c, .inr (.inr (.inl l))) => (c = 3 ∨ c = 4 ∨ c = 5) ∧ vp_in i l.length ∧ K kc ks L (xrv (l.getD i.toNatClampNeg none) :: r) n ws
      | _ => False
    | _ => False
  | .iastore => match st with
    | .int x :: .int i :: .ref p :: r => match ws p with
      | some (c, .inl l) => c = 0 ∧ vp_in i l.length ∧ K kc ks L r n (xup ws p (c, .inl (l.set i.toNatClampNeg x)))
      | _ => False
    | _ => False
  | .bastore => match st with
    | .int x :: .int i :: .ref p :: r => match ws p with
      | some (c, .inl l) => c = 1 ∧ (x = 0 ∨ x = 1) ∧ vp_in i l.length ∧ K kc ks L r n (xup ws p (c, .inl (l.set i.toNatClampNeg x)))
      | _ => False
    | _ => False
  | .lastore => match st with
    | .long x :: .int i :: .ref p :: r => match ws p with
      | some (c, .inr (.inl l)) => c = 2 ∧ vp_in i l.length ∧ K kc ks L r n (xup ws p (c, .inr (.inl (l.set i.toNatClampNeg x))))
      | _ => False
    | _ => False
  | .aastore => match st with
    | .ref v :: .int i :: .ref p :: r => match ws p with
      | some (c, .inr (.inr (.inl l))) => (c = 3 ∨ c = 4 ∨ c = 5) ∧ vp_in i l.length ∧ (∃ vs, ws v = some (xelt c, .inr (.inr (.inr vs)))) ∧ K kc ks L r n (xup ws p (c, .inr (.inr (.inl (l.set i.toNatClampNeg (some v))))))
      | _ => False
    | _ => False
  | .arraylength => match st with
    | .ref p :: r => match ws p with
      | some (c, .inl l) => c = 0 ∧ K kc ks L (.int (Int32.ofNat l.length) :: r) n ws
      | _ => False
    | _ => False
  | .newarray t => match st with
    | .int k :: r => match xnk t with
      | some j => ¬ k < 0 ∧ k.toNatClampNeg ≤ 1000 ∧ 1 ≤ kc ∧ k.toNatClampNeg ≤ ks ∧ K (kc - 1) (ks - k.toNatClampNeg) L (.ref n :: r) (n + 1) (xup ws n (j, if j = 2 then .inr (.inl (List.replicate k.toNatClampNeg 0)) else .inl (List.replicate k.toNatClampNeg 0)))
      | none => False
    | _ => False
  | .anewarray _ => match st with
    | .int k :: r => ¬ k < 0 ∧ k.toNatClampNeg ≤ 1000 ∧ 1 ≤ kc ∧ k.toNatClampNeg ≤ ks ∧ K (kc - 1) (ks - k.toNatClampNeg) L (.ref n :: r) (n + 1) (xup ws n (op.2.1, .inr (.inr (.inl (List.replicate k.toNatClampNeg none)))))
    | _ => False
  | .new _ => 1 ≤ kc ∧ (xdf op.2.1).length ≤ ks ∧ K (kc - 1) (ks - (xdf op.2.1).length) L (.ref n :: st) (n + 1) (xup ws n (op.2.1, .inr (.inr (.inr (xdf op.2.1)))))
  | _ => False
/-- a stretch of instructions -/
def xb (X : xXt) (Q : xP) (rt : Option FieldType) : List xO → Nat → xKt
  | [], pc => fun kc ks L st n ws => X kc ks pc L st n ws
  | op :: r, pc => fun kc ks L st n ws => xs X Q rt (xb X Q rt r (pc + xlen op.1)) op pc kc ks L st n ws
/-- what a program looks at of an instruction: links of fields and classes, locals' bounds, targets -/
def xlk (o maxL : Nat) (ini : Bool) (pc : Nat) (op : xO) : Bool := match op.1 with
  | .istore_n i => decide ((i : Nat) < maxL)
  | .istore i => decide (i < maxL)
  | .lstore_n i => decide ((i : Nat) + 1 < maxL)
  | .lstore i => decide (i + 1 < maxL)
  | .astore_n i => decide ((i : Nat) < maxL)
  | .astore i => decide (i < maxL)
  | .iinc i _ => decide (i < maxL)
  | .ifCond _ off => decide ((pc : Int) + off = (op.2.1 : Int))
  | .if_icmp _ off => decide ((pc : Int) + off = (op.2.1 : Int))
  | .goto off => decide ((pc : Int) + off = (op.2.1 : Int))
  | .getfield idx => decide ((o, idx, op.2.1, op.2.2) ∈ xflt)
  | .putfield idx => decide ((o, idx, op.2.1, op.2.2) ∈ xflt) && (!xfin op.2.1 op.2.2 || (ini && decide (op.2.1 = o)))
  | .new idx => decide ((o, idx, op.2.1) ∈ xnwt)
  | .anewarray idx => decide ((o, idx, op.2.1) ∈ xant)
  | _ => true
def xchk (o maxL : Nat) (ini : Bool) (cc : ByteArray) : List xO → Nat → Bool
  | [], _ => true
  | op :: r, pc => decide (decode cc pc = .ok (op.1, xlen op.1)) && xlk o maxL ini pc op && xchk o maxL ini cc r (pc + xlen op.1)
section XS
variable {l : Launch} {t : xT} {d mc ms : Nat} {Q : xP}
theorem xfl_get {z : Nat} {vs : List Value} {k : Nat} {v : Value} (h : vs[k]? = some v) : xv z (vs.getD k .null) = xv z v := by
  rw [List.getD_eq_getElem?_getD, h]; rfl
theorem xgetI {l : List Int32} (i x : Nat) (v : Int32) (h : i < l.length) : (l.set i v).getD x 0 = if x = i then v else l.getD x 0 := by
  by_cases e : x = i
  · subst e; simp [List.getD_eq_getElem?_getD, h]
  · simp [List.getD_eq_getElem?_getD, e, List.getElem?_set_ne (Ne.symm e)]
theorem xgetL {l : List Int64} (i x : Nat) (v : Int64) (h : i < l.length) : (l.set i v).getD x 0 = if x = i then v else l.getD x 0 := by
  by_cases e : x = i
  · subst e; simp [List.getD_eq_getElem?_getD, h]
  · simp [List.getD_eq_getElem?_getD, e, List.getElem?_set_ne (Ne.symm e)]
theorem xgetO {l : List (Option Nat)} (i x : Nat) (v : Option Nat) (h : i < l.length) : (l.set i v).getD x none = if x = i then v else l.getD x none := by
  by_cases e : x = i
  · subst e; simp [List.getD_eq_getElem?_getD, h]
  · simp [List.getD_eq_getElem?_getD, e, List.getElem?_set_ne (Ne.symm e)]
theorem xgetV {l : List Value} (i x : Nat) (v : Value) (h : i < l.length) : (l.set i v).getD x .null = if x = i then v else l.getD x .null := by
  by_cases e : x = i
  · subst e; simp [List.getD_eq_getElem?_getD, h]
  · simp [List.getD_eq_getElem?_getD, e, List.getElem?_set_ne (Ne.symm e)]
theorem vp_lt {i : Int32} {n : Nat} (h : vp_in i n) : i.toNatClampNeg < n := Nat.not_le.mp fun q => h (Or.inr q)
theorem xtypI {G : va_G} {tc : Nat → ClassId} {s : State} (h : xK G tc s) (k : Nat) {ty : FieldType} (hk : (xtys tc)[k]? = some (tc k, ty)) : ArrOfT s (tc k) ty := (h.1.2 k _ hk).1
set_option maxHeartbeats 4000000 in
theorem xs_ok {op : xO} {pc kc ks n : Nat} {L : xL} {st : List Value} {ws : xW} (hcls : t.2.1.cls = xnm t.1) (hdec : decode t.2.2.1 pc = .ok (op.1, xlen op.1)) (hlk : xlk t.1 t.2.2.2.1 (t.2.1.name == "<init>") pc op = true)
    (X : xXt) (hXX : ∀ kc ks pc L st n ws, X kc ks pc L st n ws → xX l t d mc ms Q kc ks pc L st n ws) (K : xKt) (hKX : ∀ kc ks L st n ws, K kc ks L st n ws → xX l t d mc ms Q kc ks (pc + xlen op.1) L st n ws) (h : xs X Q t.2.2.2.2 K op pc kc ks L st n ws) : xX l t d mc ms Q kc ks pc L st n ws := by
  intro G tc z p e s m args below meth c H locs cells slots ls hC hR hS hl hk1 hk2
  obtain ⟨hx, hb, hr, hml, hown, hts, hlocks, hnm, hK, hz⟩ := id hC
  obtain ⟨i, a, b⟩ := op
  cases i
  case iconst v => exact lv_iconst hx hb hdec rfl (hKX _ _ _ _ _ _ h G tc z p e s m args below meth c H locs cells slots ls hC hR hS hl hk1 hk2)
  case bipush v => exact lv_bipush hx hb hdec rfl (hKX _ _ _ _ _ _ h G tc z p e s m args below meth c H locs cells slots ls hC hR hS hl hk1 hk2)
  case sipush v => exact lv_sipush hx hb hdec rfl (hKX _ _ _ _ _ _ h G tc z p e s m args below meth c H locs cells slots ls hC hR hS hl hk1 hk2)
  case lconst v => exact lv_lconst hx hb hdec rfl (hKX _ _ _ _ _ _ h G tc z p e s m args below meth c H locs cells slots ls hC hR hS hl hk1 hk2)
  case iload_n i =>
    dsimp only [xs] at h
    split at h
    · next x hv => exact lv_iload_n hx hb hdec rfl (xl_at hl hv) (hKX _ _ _ _ _ _ h G tc z p e s m args below meth c H locs cells slots ls hC hR hS hl hk1 hk2)
    · exact h.elim
  case iload i =>
    dsimp only [xs] at h
    split at h
    · next x hv => exact lv_iload hx hb hdec (xl_at hl hv) (hKX _ _ _ _ _ _ h G tc z p e s m args below meth c H locs cells slots ls hC hR hS hl hk1 hk2)
    · exact h.elim
  case lload_n i =>
    dsimp only [xs] at h
    split at h
    · next x hv => exact lv_lload_n hx hb hdec rfl (xl_at hl hv) (hKX _ _ _ _ _ _ h G tc z p e s m args below meth c H locs cells slots ls hC hR hS hl hk1 hk2)
    · exact h.elim
  case lload i =>
    dsimp only [xs] at h
    split at h
    · next x hv => exact lv_lload hx hb hdec (xl_at hl hv) (hKX _ _ _ _ _ _ h G tc z p e s m args below meth c H locs cells slots ls hC hR hS hl hk1 hk2)
    · exact h.elim
  case aload_n i =>
    dsimp only [xs] at h
    split at h
    · next x hv => exact lv_aload_n hx hb hdec rfl (xl_at hl hv) (hKX _ _ _ _ _ _ h G tc z p e s m args below meth c H locs cells slots ls hC hR hS hl hk1 hk2)
    · exact h.elim
  case aload i =>
    dsimp only [xs] at h
    split at h
    · next x hv => exact lv_aload hx hb hdec (xl_at hl hv) (hKX _ _ _ _ _ _ h G tc z p e s m args below meth c H locs cells slots ls hC hR hS hl hk1 hk2)
    · exact h.elim
  case istore_n i =>
    dsimp only [xs] at h
    split at h
    · next x r => exact lv_istore_n hx hb hdec rfl hl (of_decide_eq_true hlk) (xst_map z L i (.int x)).symm (fun ls hl => hKX _ _ _ _ _ _ h G tc z p e s m args below meth c H locs cells slots ls hC hR hS hl hk1 hk2)
    · exact h.elim
  case istore i =>
    dsimp only [xs] at h
    split at h
    · next x r => exact lv_istore hx hb hdec hl (of_decide_eq_true hlk) (xst_map z L i (.int x)).symm (fun ls hl => hKX _ _ _ _ _ _ h G tc z p e s m args below meth c H locs cells slots ls hC hR hS hl hk1 hk2)
    · exact h.elim
  case lstore_n i =>
    dsimp only [xs] at h
    split at h
    · next x r => exact lv_lstore_n hx hb hdec rfl hl (of_decide_eq_true hlk) (xst2_map z L i (.long x)).symm (fun ls hl => hKX _ _ _ _ _ _ h G tc z p e s m args below meth c H locs cells slots ls hC hR hS hl hk1 hk2)
    · exact h.elim
  case lstore i =>
    dsimp only [xs] at h
    split at h
    · next x r => exact lv_lstore hx hb hdec hl (of_decide_eq_true hlk) (xst2_map z L i (.long x)).symm (fun ls hl => hKX _ _ _ _ _ _ h G tc z p e s m args below meth c H locs cells slots ls hC hR hS hl hk1 hk2)
    · exact h.elim
  case astore_n i =>
    dsimp only [xs] at h
    split at h
    · next x r => exact lv_astore_n hx hb hdec rfl hl (of_decide_eq_true hlk) (xst_map z L i (.ref x)).symm (fun ls hl => hKX _ _ _ _ _ _ h G tc z p e s m args below meth c H locs cells slots ls hC hR hS hl hk1 hk2)
    · exact h.elim
  case astore i =>
    dsimp only [xs] at h
    split at h
    · next x r => exact lv_astore hx hb hdec hl (of_decide_eq_true hlk) (xst_map z L i (.ref x)).symm (fun ls hl => hKX _ _ _ _ _ _ h G tc z p e s m args below meth c H locs cells slots ls hC hR hS hl hk1 hk2)
    · exact h.elim
  case iinc i v =>
    dsimp only [xs] at h
    split at h
    · next x hv =>
      unfold xl at hv
      cases hf : L.find? (fun q => q.1 == i) with
      | none => rw [hf] at hv; cases hv
      | some q =>
        rw [hf] at hv
        obtain ⟨q1, q2⟩ := q
        cases hv
        have h2 : q1 = i := by simpa using List.find?_some hf
        subst h2
        obtain ⟨k, hk⟩ := List.getElem?_of_mem (List.mem_of_find?_eq_some hf)
        exact lv_iinc (k := k) hx hb hdec hl (by rw [List.getElem?_map, hk]; rfl) rfl (of_decide_eq_true hlk) (xst_map z L q1 (.int (x + Int32.ofInt v))).symm (fun ls hl => hKX _ _ _ _ _ _ h G tc z p e s m args below meth c H locs cells slots ls hC hR hS hl hk1 hk2)
    · exact h.elim
  case iadd =>
    dsimp only [xs] at h
    split at h
    · exact lv_iadd hx hb hdec (hKX _ _ _ _ _ _ h G tc z p e s m args below meth c H locs cells slots ls hC hR hS hl hk1 hk2)
    · exact h.elim
  case isub =>
    dsimp only [xs] at h
    split at h
    · exact lv_isub hx hb hdec (hKX _ _ _ _ _ _ h G tc z p e s m args below meth c H locs cells slots ls hC hR hS hl hk1 hk2)
    · exact h.elim
  case imul =>
    dsimp only [xs] at h
    split at h
    · exact lv_imul hx hb hdec (hKX _ _ _ _ _ _ h G tc z p e s m args below meth c H locs cells slots ls hC hR hS hl hk1 hk2)
    · exact h.elim
  case iand =>
    dsimp only [xs] at h
    split at h
    · exact lv_iand hx hb hdec (hKX _ _ _ _ _ _ h G tc z p e s m args below meth c H locs cells slots ls hC hR hS hl hk1 hk2)
    · exact h.elim
  case ior =>
    dsimp only [xs] at h
    split at h
    · exact lv_ior hx hb hdec (hKX _ _ _ _ _ _ h G tc z p e s m args below meth c H locs cells slots ls hC hR hS hl hk1 hk2)
    · exact h.elim
  case ixor =>
    dsimp only [xs] at h
    split at h
    · exact lv_ixor hx hb hdec (hKX _ _ _ _ _ _ h G tc z p e s m args below meth c H locs cells slots ls hC hR hS hl hk1 hk2)
    · exact h.elim
  case ishl =>
    dsimp only [xs] at h
    split at h
    · exact lv_ishl hx hb hdec (hKX _ _ _ _ _ _ h G tc z p e s m args below meth c H locs cells slots ls hC hR hS hl hk1 hk2)
    · exact h.elim
  case ishr =>
    dsimp only [xs] at h
    split at h
    · exact lv_ishr hx hb hdec (hKX _ _ _ _ _ _ h G tc z p e s m args below meth c H locs cells slots ls hC hR hS hl hk1 hk2)
    · exact h.elim
  case ineg =>
    dsimp only [xs] at h
    split at h
    · exact lv_ineg hx hb hdec (hKX _ _ _ _ _ _ h G tc z p e s m args below meth c H locs cells slots ls hC hR hS hl hk1 hk2)
    · exact h.elim
  case ladd =>
    dsimp only [xs] at h
    split at h
    · exact lv_ladd hx hb hdec (hKX _ _ _ _ _ _ h G tc z p e s m args below meth c H locs cells slots ls hC hR hS hl hk1 hk2)
    · exact h.elim
  case lsub =>
    dsimp only [xs] at h
    split at h
    · exact lv_lsub hx hb hdec (hKX _ _ _ _ _ _ h G tc z p e s m args below meth c H locs cells slots ls hC hR hS hl hk1 hk2)
    · exact h.elim
  case lmul =>
    dsimp only [xs] at h
    split at h
    · exact lv_lmul hx hb hdec (hKX _ _ _ _ _ _ h G tc z p e s m args below meth c H locs cells slots ls hC hR hS hl hk1 hk2)
    · exact h.elim
  case ldiv =>
    dsimp only [xs] at h
    split at h
    · exact lv_ldiv hx hb hdec h.1 (hKX _ _ _ _ _ _ h.2 G tc z p e s m args below meth c H locs cells slots ls hC hR hS hl hk1 hk2)
    · exact h.elim
  case lrem =>
    dsimp only [xs] at h
    split at h
    · exact lv_lrem hx hb hdec h.1 (hKX _ _ _ _ _ _ h.2 G tc z p e s m args below meth c H locs cells slots ls hC hR hS hl hk1 hk2)
    · exact h.elim
  case lcmp =>
    dsimp only [xs] at h
    split at h
    · exact W.lcmp hx hb hdec (hKX _ _ _ _ _ _ h G tc z p e s m args below meth c H locs cells slots ls hC hR hS hl hk1 hk2)
    · exact h.elim
  case i2l =>
    dsimp only [xs] at h
    split at h
    · exact lv_i2l hx hb hdec rfl (hKX _ _ _ _ _ _ h G tc z p e s m args below meth c H locs cells slots ls hC hR hS hl hk1 hk2)
    · exact h.elim
  case l2i =>
    dsimp only [xs] at h
    split at h
    · exact lv_l2i hx hb hdec rfl (hKX _ _ _ _ _ _ h G tc z p e s m args below meth c H locs cells slots ls hC hR hS hl hk1 hk2)
    · exact h.elim
  case dup =>
    dsimp only [xs] at h
    split at h
    · exact lv_dup hx hb hdec (by rw [xv_cat]; exact h.1) (hKX _ _ _ _ _ _ h.2 G tc z p e s m args below meth c H locs cells slots ls hC hR hS hl hk1 hk2)
    · exact h.elim
  case dup_x1 =>
    dsimp only [xs] at h
    split at h
    · exact lv_dup_x1 hx hb hdec (by rw [xv_cat]; exact h.1) (by rw [xv_cat]; exact h.2.1) (hKX _ _ _ _ _ _ h.2.2 G tc z p e s m args below meth c H locs cells slots ls hC hR hS hl hk1 hk2)
    · exact h.elim
  case dup2 =>
    dsimp only [xs] at h
    split at h
    · exact lv_dup2_11 hx hb hdec (by rw [xv_cat]; exact h.1) (by rw [xv_cat]; exact h.2.1) (hKX _ _ _ _ _ _ h.2.2 G tc z p e s m args below meth c H locs cells slots ls hC hR hS hl hk1 hk2)
    · exact h.elim
  case ifCond c0 off =>
    dsimp only [xs] at h
    split at h
    · have ht := of_decide_eq_true hlk
      cases c0
      · exact lv_if_eq hx hb hdec ht (fun q => hXX _ _ _ _ _ _ _ (h.1 q) G tc z p e s m args below meth c H locs cells slots ls hC hR hS hl hk1 hk2) (fun q => hKX _ _ _ _ _ _ (h.2 q) G tc z p e s m args below meth c H locs cells slots ls hC hR hS hl hk1 hk2)
      · exact lv_if_ne hx hb hdec ht (fun q => hXX _ _ _ _ _ _ _ (h.1 q) G tc z p e s m args below meth c H locs cells slots ls hC hR hS hl hk1 hk2) (fun q => hKX _ _ _ _ _ _ (h.2 (fun w => w q)) G tc z p e s m args below meth c H locs cells slots ls hC hR hS hl hk1 hk2)
      all_goals first | exact lv_if_lt hx hb hdec ht (fun q => hXX _ _ _ _ _ _ _ (h.1 q) G tc z p e s m args below meth c H locs cells slots ls hC hR hS hl hk1 hk2) (fun q => hKX _ _ _ _ _ _ (h.2 q) G tc z p e s m args below meth c H locs cells slots ls hC hR hS hl hk1 hk2) | exact lv_if_ge hx hb hdec ht (fun q => hXX _ _ _ _ _ _ _ (h.1 q) G tc z p e s m args below meth c H locs cells slots ls hC hR hS hl hk1 hk2) (fun q => hKX _ _ _ _ _ _ (h.2 q) G tc z p e s m args below meth c H locs cells slots ls hC hR hS hl hk1 hk2) | exact lv_if_gt hx hb hdec ht (fun q => hXX _ _ _ _ _ _ _ (h.1 q) G tc z p e s m args below meth c H locs cells slots ls hC hR hS hl hk1 hk2) (fun q => hKX _ _ _ _ _ _ (h.2 q) G tc z p e s m args below meth c H locs cells slots ls hC hR hS hl hk1 hk2) | exact lv_if_le hx hb hdec ht (fun q => hXX _ _ _ _ _ _ _ (h.1 q) G tc z p e s m args below meth c H locs cells slots ls hC hR hS hl hk1 hk2) (fun q => hKX _ _ _ _ _ _ (h.2 q) G tc z p e s m args below meth c H locs cells slots ls hC hR hS hl hk1 hk2)
    · exact h.elim
  case if_icmp c0 off =>
    dsimp only [xs] at h
    split at h
    · have ht := of_decide_eq_true hlk
      cases c0
      · exact lv_icmp_eq hx hb hdec ht (fun q => hXX _ _ _ _ _ _ _ (h.1 q) G tc z p e s m args below meth c H locs cells slots ls hC hR hS hl hk1 hk2) (fun q => hKX _ _ _ _ _ _ (h.2 q) G tc z p e s m args below meth c H locs cells slots ls hC hR hS hl hk1 hk2)
      · exact lv_icmp_ne hx hb hdec ht (fun q => hXX _ _ _ _ _ _ _ (h.1 q) G tc z p e s m args below meth c H locs cells slots ls hC hR hS hl hk1 hk2) (fun q => hKX _ _ _ _ _ _ (h.2 (fun w => w q)) G tc z p e s m args below meth c H locs cells slots ls hC hR hS hl hk1 hk2)
      all_goals first | exact lv_icmp_lt hx hb hdec ht (fun q => hXX _ _ _ _ _ _ _ (h.1 q) G tc z p e s m args below meth c H locs cells slots ls hC hR hS hl hk1 hk2) (fun q => hKX _ _ _ _ _ _ (h.2 q) G tc z p e s m args below meth c H locs cells slots ls hC hR hS hl hk1 hk2) | exact lv_icmp_ge hx hb hdec ht (fun q => hXX _ _ _ _ _ _ _ (h.1 q) G tc z p e s m args below meth c H locs cells slots ls hC hR hS hl hk1 hk2) (fun q => hKX _ _ _ _ _ _ (h.2 q) G tc z p e s m args below meth c H locs cells slots ls hC hR hS hl hk1 hk2) | exact lv_icmp_gt hx hb hdec ht (fun q => hXX _ _ _ _ _ _ _ (h.1 q) G tc z p e s m args below meth c H locs cells slots ls hC hR hS hl hk1 hk2) (fun q => hKX _ _ _ _ _ _ (h.2 q) G tc z p e s m args below meth c H locs cells slots ls hC hR hS hl hk1 hk2) | exact lv_icmp_le hx hb hdec ht (fun q => hXX _ _ _ _ _ _ _ (h.1 q) G tc z p e s m args below meth c H locs cells slots ls hC hR hS hl hk1 hk2) (fun q => hKX _ _ _ _ _ _ (h.2 q) G tc z p e s m args below meth c H locs cells slots ls hC hR hS hl hk1 hk2)
    · exact h.elim
  case goto off =>
    exact lv_goto hx hb hdec (of_decide_eq_true hlk) (hXX _ _ _ _ _ _ _ h G tc z p e s m args below meth c H locs cells slots ls hC hR hS hl hk1 hk2)
  case ireturn =>
    dsimp only [xs] at h
    split at h
    · next x =>
      refine W.widen (k := mc) (n := ms) (by omega) (by omega) ?_
      have hq : ∀ t' : State, t'.heap = H → s.WarmedH t'.vm → xQ G tc z Q args s (.returned (some (.int x))) t' := fun t' ht' hW => ⟨⟨some (.int x), n, ws, rfl, h.2, by rw [ht']; exact hR⟩, hS.F ht'⟩
      have h1 := h.1
      unfold xret at h1
      split at h1
      · next e1 => exact W.iret hx hb (by rw [hr]; exact e1) hq hS.2.2 hdec
      · next e1 => exact W.zret (ty := .boolean) hx hb (by rw [hr]; exact e1) (by rcases h1 with rfl | rfl <;> rfl) hq hS.2.2 hdec
      · exact h1.elim
    · exact h.elim
  case lreturn =>
    dsimp only [xs] at h
    split at h
    · next x =>
      refine W.widen (k := mc) (n := ms) (by omega) (by omega) ?_
      exact W.lret hx hb (by rw [hr]; exact h.1) (fun t' ht' hW => ⟨⟨some (.long x), n, ws, rfl, h.2, by rw [ht']; exact hR⟩, hS.F ht'⟩) hS.2.2 hdec
    · exact h.elim
  case return_ =>
    dsimp only [xs] at h
    split at h
    · refine W.widen (k := mc) (n := ms) (by omega) (by omega) ?_
      exact W.vret hx hb (by rw [hr]; exact h.1) (fun t' ht' hW => ⟨⟨none, n, ws, rfl, h.2, by rw [ht']; exact hR⟩, hS.F ht'⟩) hS.2.2 hdec
    · exact h.elim
  case getfield idx =>
    dsimp only [xs] at h
    split at h
    · next q r =>
      split at h
      · next c1 vs hw =>
        obtain ⟨rfl, h⟩ := h
        split at h
        · next v hv =>
          obtain ⟨ha, hb2, hlink⟩ := xflt_ok _ (of_decide_eq_true hlk)
          obtain ⟨C, T, N, ty, hc, hin, hty, hnm2, hlen, hk0, hC0, hins, hini, hdcl⟩ := xcls _ ha
          obtain ⟨rr, hrr, hvl, hob⟩ := hR.2 q _ hw
          cases hc.symm.trans hrr
          obtain ⟨cell, q1, q2, q3, q4⟩ := hob
          obtain ⟨hSl, hfc, kC, hkC, hkind⟩ := hK.1.1 _ _ hc
          have hbN : b < N := by rw [← hlen]; exact hb2
          obtain ⟨cf, kf, fi, f, hi, hsl⟩ := hSl b hbN
          have hli := hlink _ hc
          dsimp only at hli hi
          rw [hdcl b hbN] at hi
          refine W.getf hx hb (own := t.2.1.cls) hown (by rw [hcls]; exact hts _ hli) hi (u_facts hfc hkC (u_lays hts hin hbN) (by rw [hdcl b hbN]; exact hi)).1 q1 (by rw [q3]; exact fun h => by cases h) (v := xv z v) ?_ rfl rfl hdec (hKX _ _ _ _ _ _ h G tc z p e s m args below meth c H locs cells slots ls hC hR hS hl hk1 hk2)
          rw [hsl, q4 b hbN]
          congr 1
          exact xfl_get hv
        · exact h.elim
      · exact h.elim
    · exact h.elim
  case putfield idx =>
    dsimp only [xs] at h
    split at h
    · next v q r =>
      split at h
      · next c1 vs hw =>
        obtain ⟨rfl, hfit, hbl, h⟩ := h
        try dsimp only at hfit hbl h
        have hlk2 := Bool.and_eq_true_iff.mp hlk
        obtain ⟨ha, hb2, hlink⟩ := xflt_ok _ (of_decide_eq_true hlk2.1)
        obtain ⟨C, T, N, ty, hc, hin, hty, hnm2, hlen, hk0, hC0, hins, hini, hdcl⟩ := xcls _ ha
        obtain ⟨rr, hrr, hvl, hob⟩ := hR.2 q _ hw
        cases hc.symm.trans hrr
        obtain ⟨cell, q1, q2, q3, q4⟩ := hob
        have hap := va_apart (own := t.2.1.cls) hts hin ty hty hnm2 hK.1 hc
        obtain ⟨hSl, hfc, kC, hkC, hkind⟩ := hK.1.1 _ _ hc
        have hbN : b < N := by rw [← hlen]; exact hb2
        obtain ⟨cf, kf, fi, f, hi, hsl⟩ := hSl b hbN
        have hli := hlink _ hc
        dsimp only at hli hi
        have hst := (u_facts hfc hkC (u_lays hts hin hbN) hi).1
        have hnf : narrow (ty b) (xv z v) = xv z v ∧ fits (ty b) (xv z v) = true := by
          cases v with
          | int x =>
            rcases hk0 b hbN with ⟨e1, e2⟩ | ⟨e1, e2⟩ | ⟨e1, e2⟩
            · rw [e2]; exact ⟨rfl, rfl⟩
            · exact absurd (hfit.symm.trans e1) (by decide)
            · exact absurd (hfit.symm.trans e1) (by decide)
          | long x =>
            rcases hk0 b hbN with ⟨e1, e2⟩ | ⟨e1, e2⟩ | ⟨e1, e2⟩
            · exact absurd (hfit.symm.trans e1) (by decide)
            · rw [e2]; exact ⟨rfl, rfl⟩
            · exact absurd (hfit.symm.trans e1) (by decide)
          | ref x =>
            rcases hk0 b hbN with ⟨e1, e2⟩ | ⟨e1, e2⟩ | ⟨e1, e2⟩
            · exact absurd (hfit.symm.trans e1) (by decide)
            · exact absurd (hfit.symm.trans e1) (by decide)
            · rcases e2 with ⟨D, e2⟩ | ⟨D, e2⟩ <;> rw [e2] <;> exact ⟨rfl, rfl⟩
          | _ => exact hfit.elim
        have hsee : ∀ (H1 : Heap), H1[z + q]? = some (cell.setSlot (G.2 c1 b) (xv z v)) → xat G tc z (z + q) (c1, .inr (.inr (.inr (vs.set b v)))) H1 := by
          intro H1 e1
          refine ⟨_, hc, by rw [List.length_set]; exact hvl, ?_⟩
          refine t_OB.to ⟨_, e1, q2, q3, t_set q4 hap hbN (xv z v)⟩ (fun j hj => ?_)
          rw [xgetV _ _ _ hbl]
          by_cases ej : j = b <;> simp [updV, ej]
        by_cases hfin : (T b).2.2.2 = true
        · have hfi2 : xfin c1 b = true := by unfold xfin; rw [hc]; exact hfin
          have h2 := hlk2.2
          rw [hfi2] at h2
          simp only [Bool.not_true, Bool.false_or, Bool.and_eq_true, decide_eq_true_eq, beq_iff_eq] at h2
          have hlay := hts _ (hin _ (u_in_lay hbN))
          unfold u_lay at hlay
          rw [if_pos hfin] at hlay
          have hcf : m.cls = cf := by
            obtain ⟨_, _, c', _, _, _, -, -, hf', -, -, -, hown2, -⟩ := Cond.laysFinal_spec hlay
            have e1 : c' = cf := by have := hi.symm.trans hf'; simp at this; exact this.1.symm
            rw [hdcl b hbN, hC0, h2.2, ← hcls] at hown2
            rw [← e1]; exact Option.some.inj (hown.symm.trans hown2)
          have h6 := u_fits hfc hkC hkind (Or.inr hlay) hi (hty b hbN) hnf.1 hnf.2
          rw [hdcl b hbN] at hi
          refine W.putFinK hx hb hown (by rw [hcls]; exact hts _ hli) hi hst hcf (by rw [hnm]; exact h2.1) (by rw [q2]; exact h6) q1 q3 (by rw [hsl]; exact k2_hasslot (q4 b hbN)) rfl rfl hdec fun H1 e1 z1 oq => ?_
          rw [hsl] at e1 ⊢
          exact hKX _ _ _ _ _ _ h G tc z p e s m args below meth c H1 _ cells slots ls hC (hR.set z1 oq (hsee H1 e1)) (hS.put z1 oq (Nat.le_add_right _ _)) hl hk1 hk2
        · have hlay := hts _ (hin _ (u_in_lay hbN))
          unfold u_lay at hlay
          rw [if_neg hfin] at hlay
          have h6 := u_store hfc hkC hkind hlay hi (hty b hbN) hnf.1 hnf.2
          rw [hdcl b hbN] at hi
          refine W.putK hx hb (f := f) ⟨hown, (by rw [hcls]; exact hts _ hli), ⟨_, _, _, hi⟩, hst⟩ (by rw [q2]; exact h6) q1 q3 (by rw [hsl]; exact k2_hasslot (q4 b hbN)) rfl rfl hdec fun H1 e1 z1 oq => ?_
          rw [hsl] at e1 ⊢
          exact hKX _ _ _ _ _ _ h G tc z p e s m args below meth c H1 _ cells slots ls hC (hR.set z1 oq (hsee H1 e1)) (hS.put z1 oq (Nat.le_add_right _ _)) hl hk1 hk2
      · exact h.elim
    · exact h.elim
  case iaload =>
    dsimp only [xs] at h
    split at h
    · next i q r =>
      split at h
      · next c1 l1 hw =>
        obtain ⟨rfl, hin, h⟩ := h
        exact W.iald (v := .int (l1.getD i.toNatClampNeg 0)) hx hb (hR.2 q _ hw) (xtypI hK 0 rfl _ _) (fun q => by cases q) (by show ¬ (i < 0 ∨ (arrV _ _ _).slots.size ≤ _); rw [arrV_size]; exact hin) (by show (arrV _ _ _).slots[_]? = _; rw [arrV_read _ _ (vp_lt hin)]) rfl rfl hdec (hKX _ _ _ _ _ _ h G tc z p e s m args below meth c H locs cells slots ls hC hR hS hl hk1 hk2)
      · exact h.elim
    · exact h.elim
  case baload =>
    dsimp only [xs] at h
    split at h
    · next i q r =>
      split at h
      · next c1 l1 hw =>
        obtain ⟨rfl, hin, h⟩ := h
        exact W.zald (v := .int (l1.getD i.toNatClampNeg 0)) hx hb (hR.2 q _ hw) (xtypI hK 1 rfl _ _) (fun q => by cases q) (by show ¬ (i < 0 ∨ (arrV _ _ _).slots.size ≤ _); rw [arrV_size]; exact hin) (by show (arrV _ _ _).slots[_]? = _; rw [arrV_read _ _ (vp_lt hin)]) rfl rfl hdec (hKX _ _ _ _ _ _ h G tc z p e s m args below meth c H locs cells slots ls hC hR hS hl hk1 hk2)
      · exact h.elim
    · exact h.elim
  case laload =>
    dsimp only [xs] at h
    split at h
    · next i q r =>
      split at h
      · next c1 l1 hw =>
        obtain ⟨rfl, hin, h⟩ := h
        exact W.lald (v := .long (l1.getD i.toNatClampNeg 0)) hx hb (hR.2 q _ hw) (xtypI hK 2 rfl _ _) (fun q => by cases q) (by show ¬ (i < 0 ∨ (arrV _ _ _).slots.size ≤ _); rw [arrV_size]; exact hin) (by show (arrV _ _ _).slots[_]? = _; rw [arrV_read _ _ (vp_lt hin)]) rfl rfl hdec (hKX _ _ _ _ _ _ h G tc z p e s m args below meth c H locs cells slots ls hC hR hS hl hk1 hk2)
      · exact h.elim
    · exact h.elim
  case aaload =>
    dsimp only [xs] at h
    split at h
    · next i q r =>
      split at h
      · next c1 l1 hw =>
        obtain ⟨hc1, hin, h⟩ := h
        obtain ⟨D, hD⟩ : ∃ D : String, ArrOfT s (tc c1) (.object D) := by
          rcases hc1 with rfl | rfl | rfl
          · exact ⟨_, xtypI hK 3 rfl⟩
          · exact ⟨_, xtypI hK 4 rfl⟩
          · exact ⟨_, xtypI hK 5 rfl⟩
        exact W.aald (v := xrf z (l1.getD i.toNatClampNeg none)) (ty := .object D) hx hb (hR.2 q _ hw) (hD _ _) rfl (fun q => by cases q) (by show ¬ (i < 0 ∨ (arrV _ _ _).slots.size ≤ _); rw [arrV_size]; exact hin) (by show (arrV _ _ _).slots[_]? = _; rw [arrV_read _ _ (vp_lt hin)]) rfl rfl hdec (by rw [← xv_rv]; exact hKX _ _ _ _ _ _ h G tc z p e s m args below meth c H locs cells slots ls hC hR hS hl hk1 hk2)
      · exact h.elim
    · exact h.elim
  case iastore =>
    dsimp only [xs] at h
    split at h
    · next x i q r =>
      split at h
      · next c1 l1 hw =>
        obtain ⟨rfl, hin, h⟩ := h
        refine W.iast hx hb (hR.2 q _ hw) (xtypI hK 0 rfl _ _) (fun q => by cases q) (by show ¬ (i < 0 ∨ (arrV _ _ _).slots.size ≤ _); rw [arrV_size]; exact hin) rfl rfl hdec fun H1 e1 z1 oq => ?_
        refine hKX _ _ _ _ _ _ h G tc z p e s m args below meth c H1 _ cells slots ls hC (hR.set z1 oq ?_) (hS.put z1 oq (Nat.le_add_right _ _)) hl hk1 hk2
        show H1[z + q]? = _
        rw [e1, arrV_store, List.length_set]
        congr 2
        funext j
        rw [xgetI _ _ _ (vp_lt hin)]
        by_cases ej : j = i.toNatClampNeg <;> simp [updV, ej]
      · exact h.elim
    · exact h.elim
  case bastore =>
    dsimp only [xs] at h
    split at h
    · next x i q r =>
      split at h
      · next c1 l1 hw =>
        obtain ⟨rfl, hx01, hin, h⟩ := h
        refine W.zast hx hb (hR.2 q _ hw) (xtypI hK 1 rfl _ _) (fun q => by cases q) (by show ¬ (i < 0 ∨ (arrV _ _ _).slots.size ≤ _); rw [arrV_size]; exact hin) rfl rfl hdec fun H1 e1 z1 oq => ?_
        refine hKX _ _ _ _ _ _ h G tc z p e s m args below meth c H1 _ cells slots ls hC (hR.set z1 oq ?_) (hS.put z1 oq (Nat.le_add_right _ _)) hl hk1 hk2
        show H1[z + q]? = _
        have hn : narrow .boolean (.int x) = .int x := by rcases hx01 with rfl | rfl <;> rfl
        rw [e1, hn, arrV_store, List.length_set]
        congr 2
        funext j
        rw [xgetI _ _ _ (vp_lt hin)]
        by_cases ej : j = i.toNatClampNeg <;> simp [updV, ej]
      · exact h.elim
    · exact h.elim
  case lastore =>
    dsimp only [xs] at h
    split at h
    · next x i q r =>
      split at h
      · next c1 l1 hw =>
        obtain ⟨rfl, hin, h⟩ := h
        refine W.last hx hb (hR.2 q _ hw) (xtypI hK 2 rfl _ _) (fun q => by cases q) (by show ¬ (i < 0 ∨ (arrV _ _ _).slots.size ≤ _); rw [arrV_size]; exact hin) rfl rfl hdec fun H1 e1 z1 oq => ?_
        refine hKX _ _ _ _ _ _ h G tc z p e s m args below meth c H1 _ cells slots ls hC (hR.set z1 oq ?_) (hS.put z1 oq (Nat.le_add_right _ _)) hl hk1 hk2
        show H1[z + q]? = _
        rw [e1, arrV_store, List.length_set]
        congr 2
        funext j
        rw [xgetL _ _ _ (vp_lt hin)]
        by_cases ej : j = i.toNatClampNeg <;> simp [updV, ej]
      · exact h.elim
    · exact h.elim
  case aastore =>
    dsimp only [xs] at h
    split at h
    · next v i q r =>
      split at h
      · next c1 l1 hw =>
        obtain ⟨hc1, hin, ⟨vs, hv⟩, h⟩ := h
        obtain ⟨rr, hrr, -, cellV, g1, g2, g3, -⟩ := hR.2 v _ hv
        have hcl := (hK.1.1 _ _ hrr).2
        obtain ⟨kC, hkC, -⟩ := hcl.2
        obtain ⟨kA, k1, k2⟩ : ∃ kA : Class, s.vm.classes[tc c1]? = some kA ∧ kA.kind = .array (G.1 (xelt c1)) (.object rr.1) := by
          rcases hc1 with rfl | rfl | rfl
          · obtain ⟨kA, comp, k1, k2, k3, -⟩ := (hK.1.2 3 _ rfl).2
            cases hrr
            have : comp = G.1 (xelt 3) := Option.some.inj (k3.symm.trans hcl.1)
            subst this
            exact ⟨kA, k1, k2⟩
          · obtain ⟨kA, comp, k1, k2, k3, -⟩ := (hK.1.2 4 _ rfl).2
            cases hrr
            have : comp = G.1 (xelt 4) := Option.some.inj (k3.symm.trans hcl.1)
            subst this
            exact ⟨kA, k1, k2⟩
          · obtain ⟨kA, comp, k1, k2, k3, -⟩ := (hK.1.2 5 _ rfl).2
            cases hrr
            have : comp = G.1 (xelt 5) := Option.some.inj (k3.symm.trans hcl.1)
            subst this
            exact ⟨kA, k1, k2⟩
        have h0 : ¬ i < 0 := fun q => hin (Or.inl q)
        refine W.aast hx hb (hR.2 q _ hw) (fun q h => by cases h) (fun h => by cases h) k1 k2 rfl hkC ⟨h0, by show _ < (arrV _ _ _).slots.size; rw [arrV_size]; exact vp_lt hin⟩ g1 (fun q h => by rw [g3] at h; cases h) (by rw [g2]; exact hkC) (by rw [g2]; exact va_assign hcl) rfl rfl hdec fun H1 e1 z1 oq => ?_
        refine hKX _ _ _ _ _ _ h G tc z p e s m args below meth c H1 _ cells slots ls hC (hR.set z1 oq ?_) (hS.put z1 oq (Nat.le_add_right _ _)) hl hk1 hk2
        show H1[z + q]? = _
        rw [e1, arrV_store, List.length_set]
        congr 2
        funext j
        rw [xgetO _ _ _ (vp_lt hin)]
        by_cases ej : j = i.toNatClampNeg <;> simp [updV, ej, xrf]
      · exact h.elim
    · exact h.elim
  case arraylength =>
    dsimp only [xs] at h
    split at h
    · next q r =>
      split at h
      · next c1 l1 hw =>
        obtain ⟨rfl, h⟩ := h
        exact W.alen (n := Int32.ofNat l1.length) hx hb (hR.2 q _ hw) (xtypI hK 0 rfl _ _) (by rw [arrV_size]) rfl rfl hdec (hKX _ _ _ _ _ _ h G tc z p e s m args below meth c H locs cells slots ls hC hR hS hl hk1 hk2)
      · exact h.elim
    · exact h.elim
  case newarray ty =>
    dsimp only [xs] at h
    split at h
    · next k r =>
      split at h
      · next j hj =>
        obtain ⟨hk, hk0, hc1, hs1, h⟩ := h
        have key : ∀ (FT : FieldType) (f : Nat → Value), newarray.typeOf ty = FT → (xtys tc)[j]? = some (tc j, FT) → Cond.arrayClass FT ∈ xTB → va_RA s (tc j) FT → (s.vm.findClass ("[" ++ FT.toString) = some (tc j)) → componentBytes FT ≤ 8 → (∀ (H1 : Heap), H1[z + n]? = some (arrV (tc j) k.toNatClampNeg (fun _ => defaultValue FT)) → xat G tc z (z + n) (j, if j = 2 then .inr (.inl (List.replicate k.toNatClampNeg 0)) else .inl (List.replicate k.toNatClampNeg 0)) H1) → W p l e (xrm d mc ms) s m args below meth c H locs cells slots (MQ below (xQ G tc z Q) args s mc ms (fun q => z ≤ q)) (F0 m pc ls (List.map (xv z) (.int k :: r))) := by
          intro FT f hFT htys hac hRA hfind hcb hat
          subst hFT
          refine va_newaK hx hb (hts _ hac) rfl hdec rfl hk rfl (by have := Nat.mul_le_mul hk0 hcb; omega) (by show cells + 1 ≤ mc; omega) (by show slots + _ ≤ ms; omega) rfl fun H1 cA e1 z1 o1 hAr hNm => ?_
          have hcA : cA = tc j := Option.some.inj (hNm.symm.trans hfind)
          subst hcA
          rw [hR.1] at e1
          have := hKX _ _ _ _ _ _ h G tc z p e s m args below meth c H1 locs (cells + 1) (slots + k.toNatClampNeg) ls hC (hR.push z1 o1 (by rw [hR.1]; exact hat H1 e1)) ⟨Nat.le_trans hS.1 (by omega), fun q h1 h2 => (o1 q (Nat.lt_of_lt_of_le h1 hS.1)).trans (hS.2.1 q h1 h2), hS.2.2⟩ hl (by omega) (by omega)
          rw [show H.size = z + n from hR.1]
          exact this
        have hrep : ∀ (a : Nat), (fun j => Value.int ((List.replicate a (0 : Int32)).getD j 0)) = fun _ => Value.int 0 := by
          intro a; funext j; by_cases hj : j < a <;> simp [List.getD_eq_getElem?_getD, List.getElem?_replicate, hj]
        have hrepL : ∀ (a : Nat), (fun j => Value.long ((List.replicate a (0 : Int64)).getD j 0)) = fun _ => Value.long 0 := by
          intro a; funext j; by_cases hj : j < a <;> simp [List.getD_eq_getElem?_getD, List.getElem?_replicate, hj]
        cases ty <;> first | (cases hj; done) | skip
        · cases hj
          exact key .boolean (fun _ => .int 0) rfl rfl xac_boolean (hK.1.2 1 _ rfl).2 (hK.1.2 1 _ rfl).2 (by decide) (fun H1 e1 => by
            show H1[z + n]? = some (arrV (tc 1) (List.replicate k.toNatClampNeg (0 : Int32)).length (fun j => Value.int ((List.replicate k.toNatClampNeg (0 : Int32)).getD j 0)))
            rw [e1, hrep, List.length_replicate]; rfl)
        · cases hj
          exact key .int (fun _ => .int 0) rfl rfl xac_int (hK.1.2 0 _ rfl).2 (hK.1.2 0 _ rfl).2 (by decide) (fun H1 e1 => by
            show H1[z + n]? = some (arrV (tc 0) (List.replicate k.toNatClampNeg (0 : Int32)).length (fun j => Value.int ((List.replicate k.toNatClampNeg (0 : Int32)).getD j 0)))
            rw [e1, hrep, List.length_replicate]; rfl)
        · cases hj
          exact key .long (fun _ => .long 0) rfl rfl xac_long (hK.1.2 2 _ rfl).2 (hK.1.2 2 _ rfl).2 (by decide) (fun H1 e1 => by
            show H1[z + n]? = some (arrV (tc 2) (List.replicate k.toNatClampNeg (0 : Int64)).length (fun j => Value.long ((List.replicate k.toNatClampNeg (0 : Int64)).getD j 0)))
            rw [e1, hrepL, List.length_replicate]; rfl)
      · exact h.elim
    · exact h.elim
  case anewarray idx =>
    dsimp only [xs] at h
    split at h
    · next k r =>
      obtain ⟨hk, hk0, hc1, hs1, h⟩ := h
      obtain ⟨hk3, hlink⟩ := xant_ok _ (of_decide_eq_true hlk)
      try dsimp only at hk3 hlink
      have hao : va_AO (xnm (xelt a)) s := by
        rcases hk3 with e | e | e <;> rw [e] <;> exact hK.2.1 _ (by decide +kernel)
      have hfind : s.vm.findClass ("[" ++ (FieldType.object (xnm (xelt a))).toString) = some (tc a) := by
        rcases hk3 with e | e | e <;> rw [e]
        · obtain ⟨kA, comp, k1, k2, k3, k4⟩ := (hK.1.2 3 _ rfl).2; exact k4
        · obtain ⟨kA, comp, k1, k2, k3, k4⟩ := (hK.1.2 4 _ rfl).2; exact k4
        · obtain ⟨kA, comp, k1, k2, k3, k4⟩ := (hK.1.2 5 _ rfl).2; exact k4
      refine W.anew hx hb hown (by rw [hcls]; exact hts _ hlink) (va_AO.use hao) rfl hdec rfl hk (by omega) (by show cells + 1 ≤ mc; omega) (by show slots + _ ≤ ms; omega) fun cA kA comp f1 f2 f3 f4 => ?_
      have hcA : cA = tc a := Option.some.inj (f1.symm.trans hfind)
      subst hcA
      generalize hH1 : H.push ({ cls := tc a, slots := Array.replicate k.toNatClampNeg .null, vm := .none } : Cell) = H1
      have z1 : H1.size = H.size + 1 := by rw [← hH1, Array.size_push]
      have e1 : H1[H.size]? = some (arrV (tc a) k.toNatClampNeg (fun _ => .null)) := by rw [← hH1, Array.getElem?_push_size, ← arrV_new]
      have o1 : ∀ q : Nat, q < H.size → H1[q]? = H[q]? := fun q hq => by rw [← hH1, Array.getElem?_push, if_neg (Nat.ne_of_lt hq)]
      have hrep : (fun j => xrf z ((List.replicate k.toNatClampNeg (none : Option Nat)).getD j none)) = fun _ => Value.null := by
        funext j; by_cases hj : j < k.toNatClampNeg <;> simp [List.getD_eq_getElem?_getD, List.getElem?_replicate, hj, xrf]
      have := hKX _ _ _ _ _ _ h G tc z p e s m args below meth c H1 locs (cells + 1) (slots + k.toNatClampNeg) ls hC (hR.push z1 o1 (by
        show H1[H.size]? = some (arrV (tc a) (List.replicate k.toNatClampNeg (none : Option Nat)).length (fun j => xrf z ((List.replicate k.toNatClampNeg (none : Option Nat)).getD j none)))
        rw [e1, hrep, List.length_replicate])) ⟨Nat.le_trans hS.1 (by omega), fun q h1 h2 => (o1 q (Nat.lt_of_lt_of_le h1 hS.1)).trans (hS.2.1 q h1 h2), hS.2.2⟩ hl (by omega) (by omega)
      rw [show H.size = z + n from hR.1]
      exact this
    · exact h.elim
  case new idx =>
    obtain ⟨hc1, hs1, h⟩ := h
    obtain ⟨ha, hlink⟩ := xnwt_ok _ (of_decide_eq_true hlk)
    try dsimp only at ha hlink hs1 h
    obtain ⟨C, T, N, ty, hc, hin, hty, hnm2, hlen, hk0, hC0, hins, hini, hdcl⟩ := xcls _ ha
    have hKn := hK.1.1 _ _ hc
    have hxl : (xdf a).length = N := by rw [← hlen]; simp [xdf]
    rw [hxl] at hs1 h
    refine W.newcK hx hb hown (by rw [hcls, hC0]; exact hts _ hlink) (hts _ hins) (hts _ hini) rfl hdec (by show cells + 1 ≤ mc; omega) (by show slots + N ≤ ms; omega) hKn.2.1 rfl fun H1 kC hkC e1 z1 o1 => ?_
    have hbo := u_born ty hts hin hKn hkC e1 hty
    have := hKX _ _ _ _ _ _ h G tc z p e s m args below meth c H1 locs (cells + 1) (slots + N) ls hC (hR.push z1 o1 ⟨_, hc, hxl, hbo.to (fun k hk => by
      have hxt : (xdf a).getD k .null = match xtc a k with | 0 => Value.int 0 | 1 => Value.long 0 | _ => Value.null := by
        have hk2 : k < (xtcs.getD a []).length := by rw [hlen]; exact hk
        unfold xdf xtc
        rw [List.getD_eq_getElem?_getD, List.getElem?_map, List.getD_eq_getElem?_getD (l := xtcs.getD a []), List.getElem?_eq_getElem hk2]
        rfl
      show defaultValue (ty k) = xv z ((xdf a).getD k .null)
      rw [hxt]
      rcases hk0 k hk with ⟨e1, e2⟩ | ⟨e1, e2⟩ | ⟨e1, e2⟩
      · rw [e1, e2]; rfl
      · rw [e1, e2]; rfl
      · rw [e1]; rcases e2 with ⟨D, e2⟩ | ⟨D, e2⟩ <;> rw [e2] <;> rfl)⟩) ⟨Nat.le_trans hS.1 (by omega), fun q h1 h2 => (o1 q (Nat.lt_of_lt_of_le h1 hS.1)).trans (hS.2.1 q h1 h2), hS.2.2⟩ hl (by omega) (by omega)
    rw [show H.size = z + n from hR.1]
    exact this
  all_goals exact h.elim
theorem xgoX (hcls : t.2.1.cls = xnm t.1) (X : xXt) (hXX : ∀ kc ks pc L st n ws, X kc ks pc L st n ws → xX l t d mc ms Q kc ks pc L st n ws) : ∀ (ops : List xO) (pc kc ks : Nat) (L : xL) (st : List Value) (n : Nat) (ws : xW), xchk t.1 t.2.2.2.1 (t.2.1.name == "<init>") t.2.2.1 ops pc = true → xb X Q t.2.2.2.2 ops pc kc ks L st n ws → xX l t d mc ms Q kc ks pc L st n ws
  | [], pc, kc, ks, L, st, n, ws, _, h => hXX _ _ _ _ _ _ _ h
  | op :: r, pc, kc, ks, L, st, n, ws, hc, h => by
    have h1 := Bool.and_eq_true_iff.mp hc
    have h2 := Bool.and_eq_true_iff.mp h1.1
    exact xs_ok hcls (of_decide_eq_true h2.1) h2.2 X hXX _ (fun kc ks L st n ws q => xgoX hcls X hXX r _ kc ks L st n ws h1.2 q) h
/-- the block of a table at a program counter -/
def xlook (T : List (Nat × List xO)) (pc : Nat) : Option (List xO) := match T with
  | [] => none
  | (a, o) :: T => if a = pc then some o else xlook T pc
/-- several blocks: a table of blocks, as many as k in a row -/
def xN (T : List (Nat × List xO)) (B : xXt) (Q : xP) (rt : Option FieldType) : Nat → xXt
  | 0 => B
  | k + 1 => fun kc ks pc L st n ws => match xlook T pc with
    | some ops => xb (xN T B Q rt k) Q rt ops pc kc ks L st n ws
    | none => B kc ks pc L st n ws
def xTok (t : xT) (T : List (Nat × List xO)) : Bool := T.all fun q => xchk t.1 t.2.2.2.1 (t.2.1.name == "<init>") t.2.2.1 q.2 q.1
theorem xlook_in {pc : Nat} {o : List xO} : ∀ {T : List (Nat × List xO)}, xlook T pc = some o → (pc, o) ∈ T
  | [], h => by cases h
  | (a, o2) :: T, h => by
    unfold xlook at h
    by_cases e : a = pc
    · rw [if_pos e] at h; cases h; subst e; exact List.mem_cons_self
    · rw [if_neg e] at h; exact List.mem_cons_of_mem _ (xlook_in h)
theorem xN_ok (hcls : t.2.1.cls = xnm t.1) {T : List (Nat × List xO)} (hT : xTok t T = true) : ∀ (k kc ks pc : Nat) (L : xL) (st : List Value) (n : Nat) (ws : xW), xN T (xX l t d mc ms Q) Q t.2.2.2.2 k kc ks pc L st n ws → xX l t d mc ms Q kc ks pc L st n ws
  | 0, kc, ks, pc, L, st, n, ws, h => h
  | k + 1, kc, ks, pc, L, st, n, ws, h => by
    unfold xN at h
    split at h
    · next ops ho => exact xgoX hcls _ (fun kc ks pc L st n ws q => xN_ok hcls hT k kc ks pc L st n ws q) ops pc kc ks L st n ws (List.all_eq_true.mp hT _ (xlook_in ho)) h
    · exact h
end XS
end
section
/-! CALLS -/
section XCALL
variable {l : Launch} {t : xT} {d mc ms : Nat} {Q : xP}
theorem xgood {y : xT} (h : Cond.code y.2.1 y.2.2.1 y.2.2.2.1 y.2.2.2.2 ∈ xTB) : GoodIn xTB (xws y) := by
  intro w hw
  rcases List.mem_cons.mp hw with rfl | hw
  · exact ⟨h, Or.inl rfl⟩
  · exact ⟨hw, good_of_word (List.mem_filter.mp hw).2⟩
theorem xblind {G : va_G} {tc : Nat → ClassId} {z n : Nat} {ws : xW} {As : List Value} : FrameBlind (va_Pc As (fun U => xR G tc z n ws U.heap ∧ xK G tc U)) := by
  intro a U g mk q
  exact ⟨q.1, q.2.1, xK.same (U := U.calling g mk a) rfl q.2.2⟩
theorem xcont {p : Program} {e : Env} {R : Room} {s : State} {m : MethodId} {args : Array Value} {below : List Frame} {meth : Method} {c : Code} {H : Heap} {locs : List Loc} {cells slots cc cs pc z : Nat} {Z : State → Prop} {ls : Array Slot} {st0 rest : List Value} {G : va_G} {tc : Nat → ClassId} {Q' : xP} {a : Array Value}
    (hr : va_Run p l e R s m args below meth c H locs cells slots cc cs (F0 m pc ls st0) rest (xQ G tc z Q' a) (fun q => z ≤ q)) (hS : va_S (fun q => z ≤ q) s.heap H locs)
    (kk : ∀ (r : Option Value) (n : Nat) (ws : xW) (H1 : Heap) (locs1 : List Loc), Q' r n ws → xR G tc z n ws H1 → va_S (fun q => z ≤ q) s.heap H1 locs1 → W p l e R s m args below meth c H1 locs1 (cells + cc) (slots + cs) Z (F0 m (pc + 3) ls ((r.map (xv z)).toList ++ rest))) : W p l e R s m args below meth c H locs cells slots Z (F0 m pc ls st0) := by
  intro T hT X
  obtain ⟨v, st₀, t, T', L, h0, X', hL, e1, e2, ⟨⟨r, n, ws, hv, hp, hb⟩, hz, hk⟩, st⟩ := hr T hT X
  cases hv
  rw [h0] at hz hk
  rw [← e1] at hb hz hk
  obtain ⟨t2, a1, b1⟩ := kk r n ws T'.heap (locs ++ L) hp hb ⟨Nat.le_trans hS.1 hz, fun q h1 h2 => by rw [hk q (Nat.lt_of_lt_of_le h1 hS.1) h2]; exact hS.2.1 q h1 h2, fun q hq => by
      rcases List.mem_append.mp hq with h | h
      · exact hS.2.2 q h
      · exact hL q h⟩ T' rfl X'
  exact ⟨t2, st t2 a1, b1⟩
theorem xrest {z : Nat} {rest : List Value} (h : (rest.map fun v => v.category).sum ≤ 8) : ((rest.map (xv z)).map fun v => v.category).sum ≤ 8 := by
  rw [List.map_map]
  have : ((fun v => v.category) ∘ xv z) = fun v : Value => v.category := by funext v; exact xv_cat z v
  rw [this]; exact h
theorem xres {z : Nat} {r : Option Value} {rest : List Value} : (r.map (xv z)).toList ++ rest.map (xv z) = (r.toList ++ rest).map (xv z) := by cases r <;> rfl
/-- a call of a method on an object -/
theorem xcallV {y : xT} {np idx dc cc cs pc kc ks n b : Nat} {L : xL} {As rest st vs : List Value} {ws : xW} {Q' : xP} (hcls : t.2.1.cls = xnm t.1) (hy : xMo y np) (hl : xCV t.1 idx y) (hdec : decode t.2.2.1 pc = .ok (.invokevirtual idx, 3))
    (hst : st = As.reverse ++ .ref b :: rest) (hnp : As.length = np) (hw : ws b = some (y.1, .inr (.inr (.inr vs)))) (hci : y.1 < 11) (hrest : (rest.map fun v => v.category).sum ≤ 8) (hd : dc + 1 ≤ d) (hkc : cc ≤ kc) (hks : cs ≤ ks)
    (hM : xM l y dc cc cs (.ref b :: As) n ws Q') (k : ∀ r n' ws', Q' r n' ws' → xX l t d mc ms Q (kc - cc) (ks - cs) (pc + 3) L (r.toList ++ rest) n' ws') : xX l t d mc ms Q kc ks pc L st n ws := by
  intro G tc z p e s m args below meth c H locs cells slots ls hC hR hS hl2 hk1 hk2
  obtain ⟨hx, hb, hr, hml, hown, hts, hlocks, hnm, hK, hz⟩ := id hC
  obtain ⟨hcode, hini, hmh, hpar, hmx, hpl, hyc⟩ := hy
  subst hst
  rw [hcls] at hown
  have cw : CallW (xrm d mc ms) s args (xnm t.1) y.2.1.cls idx y.2.1 y.2.2.1 y.2.2.2.1 y.2.2.2.2 (xws y) (xrm dc cc cs) cc cs np := ⟨callB_of np hts (xgood hcode) rfl rfl rfl (hts _ hini) (hts _ hl.1) ⟨hmh.1, hmh.2, hpar⟩ ⟨hd, by show 8 + (y.2.2.2.1 + 11) + 48 * dc ≤ 48 * d; omega⟩, hts _ hl.2.1, hts _ hl.2.2⟩
  obtain ⟨rr, hrr, -, cellB, g1, g2, g3, -⟩ := hR.2 b _ hw
  obtain ⟨C, T, N, ty, hc, -, -, -, -, -, hC0, -⟩ := xcls _ hci
  cases hc.symm.trans hrr
  have hfc := (hK.1.1 _ _ hrr).2.1
  refine xcont (va_runV (As := As.map (xv z)) (rest := rest.map (xv z)) (b := z + b) (C := y.2.1.cls) ⟨hx, hb, hml, hown, hts⟩ (hM G tc z) cw ⟨xblind, ⟨cellB, g1, by rw [g3]; rfl, by rw [g2, hyc, ← hC0]; exact hfc⟩, fun U hU hW => ⟨rfl, by rw [hU]; exact hR, hK.warm hW⟩⟩ rfl (by rw [List.length_map]; exact hnp) hl2.1 (by simp [xv]) (lv_room (xrest hrest)) hdec ⟨by show cells + cc ≤ mc; omega, by show slots + cs ≤ ms; omega⟩) hS (fun r n' ws' H1 locs1 hq hR1 hS1 => ?_)
  rw [xres]
  exact k r n' ws' hq G tc z p e s m args below meth c H1 locs1 _ _ ls hC hR1 hS1 hl2 (by omega) (by omega)
/-- a call of a static method of the same class -/
theorem xcallS {y : xT} {np idx dc cc cs pc kc ks n : Nat} {L : xL} {As rest st : List Value} {ws : xW} {Q' : xP} (hcls : t.2.1.cls = xnm t.1) (hy : xMo y np) (hl : xCS t.1 idx y) (hdec : decode t.2.2.1 pc = .ok (.invokestatic idx, 3))
    (hst : st = As.reverse ++ rest) (hnp : As.length = np) (hrest : (rest.map fun v => v.category).sum ≤ 8) (hd : dc + 1 ≤ d) (hkc : cc ≤ kc) (hks : cs ≤ ks)
    (hM : xM l y dc cc cs As n ws Q') (k : ∀ r n' ws', Q' r n' ws' → xX l t d mc ms Q (kc - cc) (ks - cs) (pc + 3) L (r.toList ++ rest) n' ws') : xX l t d mc ms Q kc ks pc L st n ws := by
  intro G tc z p e s m args below meth c H locs cells slots ls hC hR hS hl2 hk1 hk2
  obtain ⟨hx, hb, hr, hml, hown, hts, hlocks, hnm, hK, hz⟩ := id hC
  obtain ⟨hcode, hini, hmh, hpar, hmx, hpl, hyc⟩ := hy
  subst hst
  rw [hcls] at hown
  have cw : CallB (xrm d mc ms) s args (xnm t.1) idx y.2.1 y.2.2.1 y.2.2.2.1 y.2.2.2.2 (xws y) (xrm dc cc cs) cc cs np ∧ (Cond.static y.2.1).before args s = true := ⟨callB_of np hts (xgood hcode) rfl rfl rfl (hts _ hini) (hts _ hl.1) ⟨hmh.1, hmh.2, hpar⟩ ⟨hd, by show 8 + (y.2.2.2.1 + 11) + 48 * dc ≤ 48 * d; omega⟩, hts _ hl.2⟩
  refine xcont (va_runS (As := As.map (xv z)) (rest := rest.map (xv z)) ⟨hx, hb, hml, hown, hts⟩ (hM G tc z) cw ⟨xblind, fun U hU hW => ⟨rfl, by rw [hU]; exact hR, hK.warm hW⟩⟩ rfl (by rw [List.length_map]; exact hnp) hl2.1 (by simp) (lv_room (xrest hrest)) hdec ⟨by show cells + cc ≤ mc; omega, by show slots + cs ≤ ms; omega⟩) hS (fun r n' ws' H1 locs1 hq hR1 hS1 => ?_)
  rw [xres]
  exact k r n' ws' hq G tc z p e s m args below meth c H1 locs1 _ _ ls hC hR1 hS1 hl2 (by omega) (by omega)
/-- a call of a constructor -/
theorem xcallI {y : xT} {np idx dc cc cs pc kc ks n b : Nat} {L : xL} {As rest st : List Value} {ws : xW} {Q' : xP} (hcls : t.2.1.cls = xnm t.1) (hy : xMo y np) (hyn : y.2.1.name = "<init>") (hyr : y.2.2.2.2 = none) (hl : xCI t.1 idx y) (hdec : decode t.2.2.1 pc = .ok (.invokespecial idx, 3))
    (hst : st = As.reverse ++ .ref b :: rest) (hnp : As.length = np) (hrest : (rest.map fun v => v.category).sum ≤ 8) (hd : dc + 1 ≤ d) (hkc : cc ≤ kc) (hks : cs ≤ ks)
    (hM : xM l y dc cc cs (.ref b :: As) n ws Q') (k : ∀ r n' ws', Q' r n' ws' → xX l t d mc ms Q (kc - cc) (ks - cs) (pc + 3) L (r.toList ++ rest) n' ws') : xX l t d mc ms Q kc ks pc L st n ws := by
  intro G tc z p e s m args below meth c H locs cells slots ls hC hR hS hl2 hk1 hk2
  obtain ⟨hx, hb, hr, hml, hown, hts, hlocks, hnm, hK, hz⟩ := id hC
  obtain ⟨hcode, hini, hmh, hpar, hmx, hpl, hyc⟩ := hy
  subst hst
  rw [hcls] at hown
  have hcode0 := hcode
  rw [hyr] at hcode
  have cw : CallB (xrm d mc ms) s args (xnm t.1) idx y.2.1 y.2.2.1 y.2.2.2.1 none (xws y) (xrm dc cc cs) cc cs np ∧ y.2.1.name = "<init>" ∧ (Cond.instanceMethod y.2.1).before args s = true := ⟨callB_of (ws' := xTB) np hts (xgood hcode0) (by unfold xws; rw [hyr]) rfl rfl (hts _ hini) (hts _ hl.1) ⟨hmh.1, hmh.2, hpar⟩ ⟨hd, by show 8 + (y.2.2.2.1 + 11) + 48 * dc ≤ 48 * d; omega⟩, hyn, hts _ hl.2⟩
  refine xcont (va_runI (As := As.map (xv z)) (rest := rest.map (xv z)) (b := z + b) ⟨hx, hb, hml, hown, hts⟩ (hM G tc z) cw ⟨xblind, fun U hU hW => ⟨rfl, by rw [hU]; exact hR, hK.warm hW⟩⟩ rfl (by rw [List.length_map]; exact hnp) hl2.1 (by simp [xv]) (lv_room (xrest hrest)) hdec ⟨by show cells + cc ≤ mc; omega, by show slots + cs ≤ ms; omega⟩) hS (fun r n' ws' H1 locs1 hq hR1 hS1 => ?_)
  rw [xres]
  exact k r n' ws' hq G tc z p e s m args below meth c H1 locs1 _ _ ls hC hR1 hS1 hl2 (by omega) (by omega)
/-- a call of a nest mate's private static method -/
theorem xcallSN {y : xT} {np idx dc cc cs pc kc ks n : Nat} {L : xL} {As rest st : List Value} {ws : xW} {Q' : xP} {host : String} (hcls : t.2.1.cls = xnm t.1) (hy : xMo y np) (hl : xCN t.1 idx y host) (hsta : Cond.static y.2.1 ∈ xTB) (hdec : decode t.2.2.1 pc = .ok (.invokestatic idx, 3))
    (hst : st = As.reverse ++ rest) (hnp : As.length = np) (hrest : (rest.map fun v => v.category).sum ≤ 8) (hd : dc + 1 ≤ d) (hkc : cc ≤ kc) (hks : cs ≤ ks)
    (hM : xM l y dc cc cs As n ws Q') (k : ∀ r n' ws', Q' r n' ws' → xX l t d mc ms Q (kc - cc) (ks - cs) (pc + 3) L (r.toList ++ rest) n' ws') : xX l t d mc ms Q kc ks pc L st n ws := by
  intro G tc z p e s m args below meth c H locs cells slots ls hC hR hS hl2 hk1 hk2
  obtain ⟨hx, hb, hr, hml, hown, hts, hlocks, hnm, hK, hz⟩ := id hC
  obtain ⟨hcode, hini, hmh, hpar, hmx, hpl, hyc⟩ := hy
  subst hst
  rw [hcls] at hown
  have cw := va_cnB (R := xrm d mc ms) (args := args) (s := s) (rm := xrm dc cc cs) (mc := cc) (ms := cs) np hts (xgood hcode) rfl rfl rfl (hK.2.2 _ hl) (hts _ hini) ⟨hmh.1, hmh.2, hpar⟩ ⟨hd, by show 8 + (y.2.2.2.1 + 11) + 48 * dc ≤ 48 * d; omega⟩
  refine xcont (va_runSN (As := As.map (xv z)) (rest := rest.map (xv z)) ⟨hx, hb, hml, hown, hts⟩ (hM G tc z) ⟨cw, hts _ hsta, trivial⟩ ⟨xblind, fun U hU hW => ⟨rfl, by rw [hU]; exact hR, hK.warm hW⟩⟩ rfl (by rw [List.length_map]; exact hnp) hl2.1 (by simp) (lv_room (xrest hrest)) hdec ⟨by show cells + cc ≤ mc; omega, by show slots + cs ≤ ms; omega⟩) hS (fun r n' ws' H1 locs1 hq hR1 hS1 => ?_)
  rw [xres]
  exact k r n' ws' hq G tc z p e s m args below meth c H1 locs1 _ _ ls hC hR1 hS1 hl2 (by omega) (by omega)
/-- a call of a nest mate's private constructor -/
theorem xcallIN {y : xT} {np idx dc cc cs pc kc ks n b : Nat} {L : xL} {As rest st : List Value} {ws : xW} {Q' : xP} {host : String} (hcls : t.2.1.cls = xnm t.1) (hy : xMo y np) (hyn : y.2.1.name = "<init>") (hyr : y.2.2.2.2 = none) (hl : xCN t.1 idx y host) (hsta : Cond.instanceMethod y.2.1 ∈ xTB) (hdec : decode t.2.2.1 pc = .ok (.invokespecial idx, 3))
    (hst : st = As.reverse ++ .ref b :: rest) (hnp : As.length = np) (hrest : (rest.map fun v => v.category).sum ≤ 8) (hd : dc + 1 ≤ d) (hkc : cc ≤ kc) (hks : cs ≤ ks)
    (hM : xM l y dc cc cs (.ref b :: As) n ws Q') (k : ∀ r n' ws', Q' r n' ws' → xX l t d mc ms Q (kc - cc) (ks - cs) (pc + 3) L (r.toList ++ rest) n' ws') : xX l t d mc ms Q kc ks pc L st n ws := by
  intro G tc z p e s m args below meth c H locs cells slots ls hC hR hS hl2 hk1 hk2
  obtain ⟨hx, hb, hr, hml, hown, hts, hlocks, hnm, hK, hz⟩ := id hC
  obtain ⟨hcode, hini, hmh, hpar, hmx, hpl, hyc⟩ := hy
  subst hst
  rw [hcls] at hown
  have cw := va_cnB (R := xrm d mc ms) (args := args) (s := s) (rm := xrm dc cc cs) (mc := cc) (ms := cs) (bytes := y.2.2.1) (maxL := y.2.2.2.1) (ret := none) (ws := xws y) (ws' := xTB) np hts (xgood hcode) (by unfold xws; rw [hyr]) rfl rfl (hK.2.2 _ hl) (hts _ hini) ⟨hmh.1, hmh.2, hpar⟩ ⟨hd, by show 8 + (y.2.2.2.1 + 11) + 48 * dc ≤ 48 * d; omega⟩
  refine xcont (va_runIN (As := As.map (xv z)) (rest := rest.map (xv z)) (b := z + b) ⟨hx, hb, hml, hown, hts⟩ (hM G tc z) ⟨cw, hyn, hts _ hsta⟩ ⟨xblind, fun U hU hW => ⟨rfl, by rw [hU]; exact hR, hK.warm hW⟩⟩ rfl (by rw [List.length_map]; exact hnp) hl2.1 (by simp [xv]) (lv_room (xrest hrest)) hdec ⟨by show cells + cc ≤ mc; omega, by show slots + cs ≤ ms; omega⟩) hS (fun r n' ws' H1 locs1 hq hR1 hS1 => ?_)
  rw [xres]
  exact k r n' ws' hq G tc z p e s m args below meth c H1 locs1 _ _ ls hC hR1 hS1 hl2 (by omega) (by omega)
/-- Object's constructor -/
theorem xcallO {idx pc kc ks n b : Nat} {L : xL} {rest : List Value} {ws : xW} (hcls : t.2.1.cls = xnm t.1) (hl : Cond.methodLink (xnm t.1) idx objectInit ∈ xTB) (hdec : decode t.2.2.1 pc = .ok (.invokespecial idx, 3)) (hd : 1 ≤ d) (hrest : (rest.map fun v => v.category).sum ≤ 8)
    (k : xX l t d mc ms Q kc ks (pc + 3) L rest n ws) : xX l t d mc ms Q kc ks pc L (.ref b :: rest) n ws := by
  intro G tc z p e s m args below meth c H locs cells slots ls hC hR hS hl2 hk1 hk2
  obtain ⟨hx, hb, hr, hml, hown, hts, hlocks, hnm, hK, hz⟩ := id hC
  rw [hcls] at hown
  have hw := xrest (z := z) hrest
  refine W.objInit hx hb hown (hts _ hl) (hts _ xob1) (hts _ xob2) rfl (by rw [hml]; exact hl2.1) rfl hdec (by show 1 ≤ d; exact hd) (by have := lv_room (m := m) (pc := pc) (ls := ls) (rest := []) hw; show 2 * 0 + _ + 12 ≤ 48 * d; omega) ?_
  exact k G tc z p e s m args below meth c H locs cells slots ls hC hR hS hl2 hk1 hk2
/-- Math.min -/
theorem xcallMin {idx pc kc ks n : Nat} {L : xL} {rest : List Value} {ws : xW} {x y : Int32} (hcls : t.2.1.cls = xnm t.1) (hl : Cond.methodLink (xnm t.1) idx Lib.Math.min.name ∈ xTB) (hdec : decode t.2.2.1 pc = .ok (.invokestatic idx, 3)) (hd : 1 ≤ d) (hrest : (rest.map fun v => v.category).sum ≤ 8)
    (k : xX l t d mc ms Q kc ks (pc + 3) L (.int (if y < x then y else x) :: rest) n ws) : xX l t d mc ms Q kc ks pc L (.int y :: .int x :: rest) n ws := by
  intro G tc z p e s m args below meth c H locs cells slots ls hC hR hS hl2 hk1 hk2
  obtain ⟨hx, hb, hr, hml, hown, hts, hlocks, hnm, hK, hz⟩ := id hC
  rw [hcls] at hown
  have hw := xrest (z := z) hrest
  exact va_mmin hx hb (hml.trans hl2.1.symm) hown (hts _ hl) (hts _ xmin1) (hts _ xmin2) (hts _ xmin3) (by show 1 ≤ d; exact hd) (by show _ + 13 ≤ 48 * d; omega) (by show cells ≤ mc; omega) (by show slots ≤ ms; omega) hdec (k G tc z p e s m args below meth c H locs cells slots ls hC hR hS hl2 hk1 hk2)
/-- a table switch -/
theorem xswitch {dflt lo hi : Int} {offs : Array Int} {len pc kc ks n : Nat} {L : xL} {rest : List Value} {ws : xW} {x : Int32} (hdec : decode t.2.2.1 pc = .ok (.tableswitch dflt lo hi offs, len)) (hsz : (offs.size : Int) = hi - lo + 1) (hd : 0 ≤ (pc : Int) + dflt) (ho : ∀ (j : Nat) (off : Int), offs[j]? = some off → 0 ≤ (pc : Int) + off)
    (kin : ∀ (j : Nat) (off : Int), offs[j]? = some off → x.toInt = lo + j → xX l t d mc ms Q kc ks (xtgt pc off) L rest n ws) (kout : (x.toInt < lo ∨ hi < x.toInt) → xX l t d mc ms Q kc ks (xtgt pc dflt) L rest n ws) : xX l t d mc ms Q kc ks pc L (.int x :: rest) n ws := by
  intro G tc z p e s m args below meth c H locs cells slots ls hC hR hS hl2 hk1 hk2
  obtain ⟨hx, hb, hr, hml, hown, hts, hlocks, hnm, hK, hz⟩ := id hC
  by_cases h : x.toInt < lo ∨ hi < x.toInt
  · exact lv_tableOut hx hb hdec h (by unfold xtgt; omega) (kout h G tc z p e s m args below meth c H locs cells slots ls hC hR hS hl2 hk1 hk2)
  · have h1 : ¬ x.toInt < lo := fun q => h (Or.inl q)
    have h2 : ¬ hi < x.toInt := fun q => h (Or.inr q)
    have hlt : (x.toInt - lo).toNat < offs.size := by omega
    have hof := Array.getElem?_eq_getElem hlt
    have hp := ho _ _ hof
    exact lv_tableIn hx hb hdec h1 h2 hof (by unfold xtgt; omega) (kin _ _ hof (by omega) G tc z p e s m args below meth c H locs cells slots ls hC hR hS hl2 hk1 hk2)
end XCALL
end
section
def oX0_init_0 : List xO := [(.aload_n 0, 0, 0)]
def oX0_init_4 : List xO := [(.aload_n 0, 0, 0), (.bipush 6, 0, 0), (.anewarray 9, 5, 0), (.putfield 11, 0, 0), (.aload_n 0, 0, 0), (.bipush 6, 0, 0), (.newarray .int, 0, 0), (.putfield 17, 0, 1), (.aload_n 0, 0, 0), (.bipush 6, 0, 0), (.newarray .boolean, 0, 0), (.putfield 21, 0, 2), (.aload_n 0, 0, 0), (.new 9, 2, 0), (.dup, 0, 0)]
def oX0_init_37 : List xO := [(.putfield 26, 0, 3), (.aload_n 0, 0, 0), (.new 9, 2, 0), (.dup, 0, 0)]
def oX0_init_48 : List xO := [(.putfield 30, 0, 4), (.aload_n 0, 0, 0), (.iconst (-1), 0, 0), (.putfield 33, 0, 5), (.iconst 0, 0, 0), (.istore_n 1, 0, 0)]
def oX0_init_58 : List xO := [(.iload_n 1, 0, 0), (.bipush 6, 0, 0), (.if_icmp .ge 22, 83, 0), (.aload_n 0, 0, 0), (.getfield 11, 0, 0), (.iload_n 1, 0, 0), (.new 9, 2, 0), (.dup, 0, 0)]
def oX0_init_76 : List xO := [(.aastore, 0, 0), (.iinc 1 1, 0, 0), (.goto (-22), 58, 0)]
def oX0_init_83 : List xO := [(.return_, 0, 0)]
def AX0_init : List (Nat × List xO) := [(0, oX0_init_0), (4, oX0_init_4), (37, oX0_init_37), (48, oX0_init_48), (58, oX0_init_58), (76, oX0_init_76), (83, oX0_init_83)]
theorem aX0_init : xTok tX0_init AX0_init = true := by decide +kernel
theorem rX0_init : tX0_init.2.2.2.2 = none := rfl
theorem cX0_init_1 {l : Launch} {d mc ms : Nat} {Q : xP} {kc ks n : Nat} {L : xL} {rest : List Value} {ws : xW} {b : Nat} (hd : 1 ≤ d) (hr : (rest.map fun v => v.category).sum ≤ 8) (k : xX l tX0_init d mc ms Q kc ks 4 L rest n ws) : xX l tX0_init d mc ms Q kc ks 1 L (.ref b :: rest) n ws := xcallO (t := tX0_init) rfl k0_3 (by decide +kernel) hd hr k
theorem cX0_init_34 {l : Launch} {d mc ms : Nat} {Q : xP} {kc ks n : Nat} {L : xL} {rest : List Value} {ws : xW} {b : Nat} {dc cc cs : Nat} {Q' : xP} (hd : dc + 1 ≤ d) (hkc : cc ≤ kc) (hks : cs ≤ ks) (hr : (rest.map fun v => v.category).sum ≤ 8) (hM : xM l tX2_init dc cc cs [.ref b] n ws Q') (k : ∀ r n' ws', Q' r n' ws' → xX l tX0_init d mc ms Q (kc - cc) (ks - cs) 37 L (r.toList ++ rest) n' ws') : xX l tX0_init d mc ms Q kc ks 34 L (.ref b :: rest) n ws := xcallIN (t := tX0_init) (As := []) rfl mX2_init rfl rfl k0_25 nX2_init (by decide +kernel) rfl rfl hr hd hkc hks hM k
theorem cX0_init_45 {l : Launch} {d mc ms : Nat} {Q : xP} {kc ks n : Nat} {L : xL} {rest : List Value} {ws : xW} {b : Nat} {dc cc cs : Nat} {Q' : xP} (hd : dc + 1 ≤ d) (hkc : cc ≤ kc) (hks : cs ≤ ks) (hr : (rest.map fun v => v.category).sum ≤ 8) (hM : xM l tX2_init dc cc cs [.ref b] n ws Q') (k : ∀ r n' ws', Q' r n' ws' → xX l tX0_init d mc ms Q (kc - cc) (ks - cs) 48 L (r.toList ++ rest) n' ws') : xX l tX0_init d mc ms Q kc ks 45 L (.ref b :: rest) n ws := xcallIN (t := tX0_init) (As := []) rfl mX2_init rfl rfl k0_25 nX2_init (by decide +kernel) rfl rfl hr hd hkc hks hM k
theorem cX0_init_73 {l : Launch} {d mc ms : Nat} {Q : xP} {kc ks n : Nat} {L : xL} {rest : List Value} {ws : xW} {b : Nat} {dc cc cs : Nat} {Q' : xP} (hd : dc + 1 ≤ d) (hkc : cc ≤ kc) (hks : cs ≤ ks) (hr : (rest.map fun v => v.category).sum ≤ 8) (hM : xM l tX2_init dc cc cs [.ref b] n ws Q') (k : ∀ r n' ws', Q' r n' ws' → xX l tX0_init d mc ms Q (kc - cc) (ks - cs) 76 L (r.toList ++ rest) n' ws') : xX l tX0_init d mc ms Q kc ks 73 L (.ref b :: rest) n ws := xcallIN (t := tX0_init) (As := []) rfl mX2_init rfl rfl k0_25 nX2_init (by decide +kernel) rfl rfl hr hd hkc hks hM k
def oX0_refresh_0 : List xO := [(.aload_n 0, 0, 0), (.getfield 33, 0, 5), (.aload_n 1, 0, 0), (.getfield 37, 4, 3), (.if_icmp .ne 4, 12, 0), (.return_, 0, 0)]
def oX0_refresh_12 : List xO := [(.iconst 0, 0, 0), (.istore_n 3, 0, 0)]
def oX0_refresh_14 : List xO := [(.iload_n 3, 0, 0), (.aload_n 1, 0, 0), (.getfield 40, 4, 2), (.if_icmp .ge 39, 58, 0), (.aload_n 0, 0, 0), (.getfield 21, 0, 2), (.iload_n 3, 0, 0), (.aload_n 2, 0, 0), (.getfield 43, 8, 0), (.iload_n 3, 0, 0), (.aaload, 0, 0), (.getfield 49, 7, 0), (.ifCond .le 7, 43, 0), (.iconst 1, 0, 0), (.goto 4, 44, 0)]
def oX0_refresh_43 : List xO := [(.iconst 0, 0, 0)]
def oX0_refresh_44 : List xO := [(.bastore, 0, 0), (.aload_n 0, 0, 0), (.getfield 17, 0, 1), (.iload_n 3, 0, 0), (.iconst (-1), 0, 0), (.iastore, 0, 0), (.iinc 3 1, 0, 0), (.goto (-41), 14, 0)]
def oX0_refresh_58 : List xO := [(.iconst 0, 0, 0), (.istore_n 3, 0, 0)]
def oX0_refresh_60 : List xO := [(.iload_n 3, 0, 0), (.aload_n 1, 0, 0), (.getfield 40, 4, 2), (.if_icmp .ge 34, 99, 0), (.aload_n 0, 0, 0), (.aload_n 1, 0, 0), (.aload_n 2, 0, 0)]
def oX0_refresh_74 : List xO := [(.istore 4, 0, 0), (.iload 4, 0, 0), (.iconst (-1), 0, 0), (.if_icmp .ne 6, 85, 0), (.goto 17, 99, 0)]
def oX0_refresh_85 : List xO := [(.aload_n 0, 0, 0), (.aload_n 1, 0, 0), (.aload_n 2, 0, 0), (.iload 4, 0, 0)]
def oX0_refresh_93 : List xO := [(.iinc 3 1, 0, 0), (.goto (-36), 60, 0)]
def oX0_refresh_99 : List xO := [(.aload_n 0, 0, 0), (.aload_n 1, 0, 0), (.getfield 37, 4, 3), (.putfield 33, 0, 5), (.return_, 0, 0)]
def AX0_refresh : List (Nat × List xO) := [(0, oX0_refresh_0), (12, oX0_refresh_12), (14, oX0_refresh_14), (43, oX0_refresh_43), (44, oX0_refresh_44), (58, oX0_refresh_58), (60, oX0_refresh_60), (74, oX0_refresh_74), (85, oX0_refresh_85), (93, oX0_refresh_93), (99, oX0_refresh_99)]
theorem aX0_refresh : xTok tX0_refresh AX0_refresh = true := by decide +kernel
theorem rX0_refresh : tX0_refresh.2.2.2.2 = none := rfl
theorem cX0_refresh_71 {l : Launch} {d mc ms : Nat} {Q : xP} {kc ks n : Nat} {L : xL} {rest : List Value} {ws : xW} {v0 v1 : Value} {b : Nat} {vs : List Value} (hw : ws b = some (0, .inr (.inr (.inr vs)))) {dc cc cs : Nat} {Q' : xP} (hd : dc + 1 ≤ d) (hkc : cc ≤ kc) (hks : cs ≤ ks) (hr : (rest.map fun v => v.category).sum ≤ 8) (hM : xM l tX0_findTightest dc cc cs [.ref b, v0, v1] n ws Q') (k : ∀ r n' ws', Q' r n' ws' → xX l tX0_refresh d mc ms Q (kc - cc) (ks - cs) 74 L (r.toList ++ rest) n' ws') : xX l tX0_refresh d mc ms Q kc ks 71 L (v1 :: v0 :: .ref b :: rest) n ws := xcallV (t := tX0_refresh) (As := [v0, v1]) rfl mX0_findTightest k0_54 (by decide +kernel) rfl rfl hw (by decide) hr hd hkc hks hM k
theorem cX0_refresh_90 {l : Launch} {d mc ms : Nat} {Q : xP} {kc ks n : Nat} {L : xL} {rest : List Value} {ws : xW} {v0 v1 v2 : Value} {b : Nat} {vs : List Value} (hw : ws b = some (0, .inr (.inr (.inr vs)))) {dc cc cs : Nat} {Q' : xP} (hd : dc + 1 ≤ d) (hkc : cc ≤ kc) (hks : cs ≤ ks) (hr : (rest.map fun v => v.category).sum ≤ 8) (hM : xM l tX0_closeAlong dc cc cs [.ref b, v0, v1, v2] n ws Q') (k : ∀ r n' ws', Q' r n' ws' → xX l tX0_refresh d mc ms Q (kc - cc) (ks - cs) 93 L (r.toList ++ rest) n' ws') : xX l tX0_refresh d mc ms Q kc ks 90 L (v2 :: v1 :: v0 :: .ref b :: rest) n ws := xcallV (t := tX0_refresh) (As := [v0, v1, v2]) rfl mX0_closeAlong k0_58 (by decide +kernel) rfl rfl hw (by decide) hr hd hkc hks hM k
def oX0_findTightest_0 : List xO := [(.iconst (-1), 0, 0), (.istore_n 3, 0, 0), (.iconst 0, 0, 0), (.istore 4, 0, 0)]
def oX0_findTightest_5 : List xO := [(.iload 4, 0, 0), (.aload_n 1, 0, 0), (.getfield 62, 4, 1), (.if_icmp .ge 77, 88, 0), (.aload_n 0, 0, 0), (.aload_n 1, 0, 0), (.aload_n 2, 0, 0), (.iload 4, 0, 0)]
def oX0_findTightest_22 : List xO := [(.istore 5, 0, 0), (.iload 5, 0, 0), (.ifCond .le 56, 82, 0), (.aload_n 0, 0, 0), (.aload_n 1, 0, 0), (.aload_n 2, 0, 0), (.iload 4, 0, 0), (.iload 5, 0, 0)]
def oX0_findTightest_39 : List xO := [(.iload_n 3, 0, 0), (.iconst (-1), 0, 0), (.if_icmp .eq 17, 58, 0), (.aload_n 0, 0, 0), (.getfield 26, 0, 3), (.aload_n 0, 0, 0), (.getfield 30, 0, 4)]
def oX0_findTightest_55 : List xO := [(.ifCond .eq 27, 82, 0)]
def oX0_findTightest_58 : List xO := [(.iload 4, 0, 0), (.istore_n 3, 0, 0), (.aload_n 0, 0, 0), (.getfield 30, 0, 4), (.aload_n 0, 0, 0), (.getfield 26, 0, 3), (.getfield 77, 2, 0), (.aload_n 0, 0, 0), (.getfield 26, 0, 3), (.getfield 81, 2, 1)]
def oX0_findTightest_82 : List xO := [(.iinc 4 1, 0, 0), (.goto (-80), 5, 0)]
def oX0_findTightest_88 : List xO := [(.iload_n 3, 0, 0), (.ireturn, 0, 0)]
def AX0_findTightest : List (Nat × List xO) := [(0, oX0_findTightest_0), (5, oX0_findTightest_5), (22, oX0_findTightest_22), (39, oX0_findTightest_39), (55, oX0_findTightest_55), (58, oX0_findTightest_58), (82, oX0_findTightest_82), (88, oX0_findTightest_88)]
theorem aX0_findTightest : xTok tX0_findTightest AX0_findTightest = true := by decide +kernel
theorem rX0_findTightest : tX0_findTightest.2.2.2.2 = (some .int) := rfl
theorem cX0_findTightest_19 {l : Launch} {d mc ms : Nat} {Q : xP} {kc ks n : Nat} {L : xL} {rest : List Value} {ws : xW} {v0 v1 v2 : Value} {b : Nat} {vs : List Value} (hw : ws b = some (0, .inr (.inr (.inr vs)))) {dc cc cs : Nat} {Q' : xP} (hd : dc + 1 ≤ d) (hkc : cc ≤ kc) (hks : cs ≤ ks) (hr : (rest.map fun v => v.category).sum ≤ 8) (hM : xM l tX0_openUsers dc cc cs [.ref b, v0, v1, v2] n ws Q') (k : ∀ r n' ws', Q' r n' ws' → xX l tX0_findTightest d mc ms Q (kc - cc) (ks - cs) 22 L (r.toList ++ rest) n' ws') : xX l tX0_findTightest d mc ms Q kc ks 19 L (v2 :: v1 :: v0 :: .ref b :: rest) n ws := xcallV (t := tX0_findTightest) (As := [v0, v1, v2]) rfl mX0_openUsers k0_65 (by decide +kernel) rfl rfl hw (by decide) hr hd hkc hks hM k
theorem cX0_findTightest_36 {l : Launch} {d mc ms : Nat} {Q : xP} {kc ks n : Nat} {L : xL} {rest : List Value} {ws : xW} {v0 v1 v2 v3 : Value} {b : Nat} {vs : List Value} (hw : ws b = some (0, .inr (.inr (.inr vs)))) {dc cc cs : Nat} {Q' : xP} (hd : dc + 1 ≤ d) (hkc : cc ≤ kc) (hks : cs ≤ ks) (hr : (rest.map fun v => v.category).sum ≤ 8) (hM : xM l tX0_setShare dc cc cs [.ref b, v0, v1, v2, v3] n ws Q') (k : ∀ r n' ws', Q' r n' ws' → xX l tX0_findTightest d mc ms Q (kc - cc) (ks - cs) 39 L (r.toList ++ rest) n' ws') : xX l tX0_findTightest d mc ms Q kc ks 36 L (v3 :: v2 :: v1 :: v0 :: .ref b :: rest) n ws := xcallV (t := tX0_findTightest) (As := [v0, v1, v2, v3]) rfl mX0_setShare k0_69 (by decide +kernel) rfl rfl hw (by decide) hr hd hkc hks hM k
theorem cX0_findTightest_52 {l : Launch} {d mc ms : Nat} {Q : xP} {kc ks n : Nat} {L : xL} {rest : List Value} {ws : xW} {v0 : Value} {b : Nat} {vs : List Value} (hw : ws b = some (2, .inr (.inr (.inr vs)))) {dc cc cs : Nat} {Q' : xP} (hd : dc + 1 ≤ d) (hkc : cc ≤ kc) (hks : cs ≤ ks) (hr : (rest.map fun v => v.category).sum ≤ 8) (hM : xM l tX2_isLessThan dc cc cs [.ref b, v0] n ws Q') (k : ∀ r n' ws', Q' r n' ws' → xX l tX0_findTightest d mc ms Q (kc - cc) (ks - cs) 55 L (r.toList ++ rest) n' ws') : xX l tX0_findTightest d mc ms Q kc ks 52 L (v0 :: .ref b :: rest) n ws := xcallV (t := tX0_findTightest) (As := [v0]) rfl mX2_isLessThan k0_73 (by decide +kernel) rfl rfl hw (by decide) hr hd hkc hks hM k
theorem cX0_findTightest_79 {l : Launch} {d mc ms : Nat} {Q : xP} {kc ks n : Nat} {L : xL} {rest : List Value} {ws : xW} {v0 v1 : Value} {b : Nat} {vs : List Value} (hw : ws b = some (2, .inr (.inr (.inr vs)))) {dc cc cs : Nat} {Q' : xP} (hd : dc + 1 ≤ d) (hkc : cc ≤ kc) (hks : cs ≤ ks) (hr : (rest.map fun v => v.category).sum ≤ 8) (hM : xM l tX2_set dc cc cs [.ref b, v0, v1] n ws Q') (k : ∀ r n' ws', Q' r n' ws' → xX l tX0_findTightest d mc ms Q (kc - cc) (ks - cs) 82 L (r.toList ++ rest) n' ws') : xX l tX0_findTightest d mc ms Q kc ks 79 L (v1 :: v0 :: .ref b :: rest) n ws := xcallV (t := tX0_findTightest) (As := [v0, v1]) rfl mX2_set k0_84 (by decide +kernel) rfl rfl hw (by decide) hr hd hkc hks hM k
def oX0_openUsers_0 : List xO := [(.iconst 0, 0, 0), (.istore 4, 0, 0), (.iconst 0, 0, 0), (.istore 5, 0, 0)]
def oX0_openUsers_6 : List xO := [(.iload 5, 0, 0), (.aload_n 1, 0, 0), (.getfield 40, 4, 2), (.if_icmp .ge 41, 53, 0), (.aload_n 0, 0, 0), (.getfield 21, 0, 2), (.iload 5, 0, 0), (.baload, 0, 0), (.ifCond .eq 25, 47, 0), (.aload_n 2, 0, 0), (.getfield 43, 8, 0), (.iload 5, 0, 0), (.aaload, 0, 0), (.getfield 88, 7, 1), (.iconst 0, 0, 0), (.aaload, 0, 0), (.iload_n 3, 0, 0)]
def oX0_openUsers_41 : List xO := [(.ifCond .eq 6, 47, 0), (.iinc 4 1, 0, 0)]
def oX0_openUsers_47 : List xO := [(.iinc 5 1, 0, 0), (.goto (-44), 6, 0)]
def oX0_openUsers_53 : List xO := [(.iload 4, 0, 0), (.ireturn, 0, 0)]
def AX0_openUsers : List (Nat × List xO) := [(0, oX0_openUsers_0), (6, oX0_openUsers_6), (41, oX0_openUsers_41), (47, oX0_openUsers_47), (53, oX0_openUsers_53)]
theorem aX0_openUsers : xTok tX0_openUsers AX0_openUsers = true := by decide +kernel
theorem rX0_openUsers : tX0_openUsers.2.2.2.2 = (some .int) := rfl
theorem cX0_openUsers_38 {l : Launch} {d mc ms : Nat} {Q : xP} {kc ks n : Nat} {L : xL} {rest : List Value} {ws : xW} {v0 : Value} {b : Nat} {vs : List Value} (hw : ws b = some (6, .inr (.inr (.inr vs)))) {dc cc cs : Nat} {Q' : xP} (hd : dc + 1 ≤ d) (hkc : cc ≤ kc) (hks : cs ≤ ks) (hr : (rest.map fun v => v.category).sum ≤ 8) (hM : xM l tX6_uses dc cc cs [.ref b, v0] n ws Q') (k : ∀ r n' ws', Q' r n' ws' → xX l tX0_openUsers d mc ms Q (kc - cc) (ks - cs) 41 L (r.toList ++ rest) n' ws') : xX l tX0_openUsers d mc ms Q kc ks 38 L (v0 :: .ref b :: rest) n ws := xcallV (t := tX0_openUsers) (As := [v0]) rfl mX6_uses k0_92 (by decide +kernel) rfl rfl hw (by decide) hr hd hkc hks hM k
def oX0_setShare_0 : List xO := [(.aload_n 0, 0, 0), (.getfield 26, 0, 3), (.aload_n 1, 0, 0), (.getfield 98, 4, 7), (.iload_n 3, 0, 0), (.iaload, 0, 0), (.i2l, 0, 0), (.lconst 1, 0, 0)]
def oX0_setShare_15 : List xO := [(.iconst 0, 0, 0), (.istore 5, 0, 0)]
def oX0_setShare_18 : List xO := [(.iload 5, 0, 0), (.aload_n 1, 0, 0), (.getfield 40, 4, 2), (.if_icmp .ge 77, 101, 0), (.aload_n 0, 0, 0), (.getfield 21, 0, 2), (.iload 5, 0, 0), (.baload, 0, 0), (.ifCond .ne 20, 54, 0), (.aload_n 2, 0, 0), (.getfield 43, 8, 0), (.iload 5, 0, 0), (.aaload, 0, 0), (.getfield 49, 7, 0), (.ifCond .le 7, 54, 0), (.iconst 1, 0, 0), (.goto 4, 55, 0)]
def oX0_setShare_54 : List xO := [(.iconst 0, 0, 0)]
def oX0_setShare_55 : List xO := [(.istore 6, 0, 0), (.iload 6, 0, 0), (.ifCond .eq 36, 95, 0), (.aload_n 2, 0, 0), (.getfield 43, 8, 0), (.iload 5, 0, 0), (.aaload, 0, 0), (.getfield 88, 7, 1), (.iconst 0, 0, 0), (.aaload, 0, 0), (.iload_n 3, 0, 0)]
def oX0_setShare_78 : List xO := [(.ifCond .eq 17, 95, 0), (.aload_n 0, 0, 0), (.getfield 26, 0, 3), (.aload_n 0, 0, 0), (.getfield 11, 0, 0), (.iload 5, 0, 0), (.aaload, 0, 0)]
def oX0_setShare_95 : List xO := [(.iinc 5 1, 0, 0), (.goto (-80), 18, 0)]
def oX0_setShare_101 : List xO := [(.aload_n 0, 0, 0), (.getfield 26, 0, 3), (.aload_n 0, 0, 0), (.getfield 26, 0, 3), (.getfield 77, 2, 0), (.aload_n 0, 0, 0), (.getfield 26, 0, 3), (.getfield 81, 2, 1), (.iload 4, 0, 0), (.i2l, 0, 0), (.lmul, 0, 0)]
def oX0_setShare_126 : List xO := [(.return_, 0, 0)]
def AX0_setShare : List (Nat × List xO) := [(0, oX0_setShare_0), (15, oX0_setShare_15), (18, oX0_setShare_18), (54, oX0_setShare_54), (55, oX0_setShare_55), (78, oX0_setShare_78), (95, oX0_setShare_95), (101, oX0_setShare_101), (126, oX0_setShare_126)]
theorem aX0_setShare : xTok tX0_setShare AX0_setShare = true := by decide +kernel
theorem rX0_setShare : tX0_setShare.2.2.2.2 = none := rfl
theorem cX0_setShare_12 {l : Launch} {d mc ms : Nat} {Q : xP} {kc ks n : Nat} {L : xL} {rest : List Value} {ws : xW} {v0 v1 : Value} {b : Nat} {vs : List Value} (hw : ws b = some (2, .inr (.inr (.inr vs)))) {dc cc cs : Nat} {Q' : xP} (hd : dc + 1 ≤ d) (hkc : cc ≤ kc) (hks : cs ≤ ks) (hr : (rest.map fun v => v.category).sum ≤ 8) (hM : xM l tX2_set dc cc cs [.ref b, v0, v1] n ws Q') (k : ∀ r n' ws', Q' r n' ws' → xX l tX0_setShare d mc ms Q (kc - cc) (ks - cs) 15 L (r.toList ++ rest) n' ws') : xX l tX0_setShare d mc ms Q kc ks 12 L (v1 :: v0 :: .ref b :: rest) n ws := xcallV (t := tX0_setShare) (As := [v0, v1]) rfl mX2_set k0_84 (by decide +kernel) rfl rfl hw (by decide) hr hd hkc hks hM k
theorem cX0_setShare_75 {l : Launch} {d mc ms : Nat} {Q : xP} {kc ks n : Nat} {L : xL} {rest : List Value} {ws : xW} {v0 : Value} {b : Nat} {vs : List Value} (hw : ws b = some (6, .inr (.inr (.inr vs)))) {dc cc cs : Nat} {Q' : xP} (hd : dc + 1 ≤ d) (hkc : cc ≤ kc) (hks : cs ≤ ks) (hr : (rest.map fun v => v.category).sum ≤ 8) (hM : xM l tX6_uses dc cc cs [.ref b, v0] n ws Q') (k : ∀ r n' ws', Q' r n' ws' → xX l tX0_setShare d mc ms Q (kc - cc) (ks - cs) 78 L (r.toList ++ rest) n' ws') : xX l tX0_setShare d mc ms Q kc ks 75 L (v0 :: .ref b :: rest) n ws := xcallV (t := tX0_setShare) (As := [v0]) rfl mX6_uses k0_92 (by decide +kernel) rfl rfl hw (by decide) hr hd hkc hks hM k
theorem cX0_setShare_92 {l : Launch} {d mc ms : Nat} {Q : xP} {kc ks n : Nat} {L : xL} {rest : List Value} {ws : xW} {v0 : Value} {b : Nat} {vs : List Value} (hw : ws b = some (2, .inr (.inr (.inr vs)))) {dc cc cs : Nat} {Q' : xP} (hd : dc + 1 ≤ d) (hkc : cc ≤ kc) (hks : cs ≤ ks) (hr : (rest.map fun v => v.category).sum ≤ 8) (hM : xM l tX2_subtract dc cc cs [.ref b, v0] n ws Q') (k : ∀ r n' ws', Q' r n' ws' → xX l tX0_setShare d mc ms Q (kc - cc) (ks - cs) 95 L (r.toList ++ rest) n' ws') : xX l tX0_setShare d mc ms Q kc ks 92 L (v0 :: .ref b :: rest) n ws := xcallV (t := tX0_setShare) (As := [v0]) rfl mX2_subtract k0_101 (by decide +kernel) rfl rfl hw (by decide) hr hd hkc hks hM k
theorem cX0_setShare_123 {l : Launch} {d mc ms : Nat} {Q : xP} {kc ks n : Nat} {L : xL} {rest : List Value} {ws : xW} {v0 v1 : Value} {b : Nat} {vs : List Value} (hw : ws b = some (2, .inr (.inr (.inr vs)))) {dc cc cs : Nat} {Q' : xP} (hd : dc + 1 ≤ d) (hkc : cc ≤ kc) (hks : cs ≤ ks) (hr : (rest.map fun v => v.category).sum ≤ 8) (hM : xM l tX2_set dc cc cs [.ref b, v0, v1] n ws Q') (k : ∀ r n' ws', Q' r n' ws' → xX l tX0_setShare d mc ms Q (kc - cc) (ks - cs) 126 L (r.toList ++ rest) n' ws') : xX l tX0_setShare d mc ms Q kc ks 123 L (v1 :: v0 :: .ref b :: rest) n ws := xcallV (t := tX0_setShare) (As := [v0, v1]) rfl mX2_set k0_84 (by decide +kernel) rfl rfl hw (by decide) hr hd hkc hks hM k
def oX0_closeAlong_0 : List xO := [(.iconst 0, 0, 0), (.istore 4, 0, 0)]
def oX0_closeAlong_3 : List xO := [(.iload 4, 0, 0), (.aload_n 1, 0, 0), (.getfield 40, 4, 2), (.if_icmp .ge 78, 87, 0), (.aload_n 0, 0, 0), (.getfield 21, 0, 2), (.iload 4, 0, 0), (.baload, 0, 0), (.ifCond .eq 62, 81, 0), (.aload_n 2, 0, 0), (.getfield 43, 8, 0), (.iload 4, 0, 0), (.aaload, 0, 0), (.getfield 88, 7, 1), (.iconst 0, 0, 0), (.aaload, 0, 0), (.iload_n 3, 0, 0)]
def oX0_closeAlong_38 : List xO := [(.ifCond .eq 43, 81, 0), (.aload_n 0, 0, 0), (.getfield 21, 0, 2), (.iload 4, 0, 0), (.iconst 0, 0, 0), (.bastore, 0, 0), (.aload_n 0, 0, 0), (.getfield 17, 0, 1), (.iload 4, 0, 0), (.iload_n 3, 0, 0), (.iastore, 0, 0), (.aload_n 0, 0, 0), (.getfield 11, 0, 0), (.iload 4, 0, 0), (.aaload, 0, 0), (.aload_n 0, 0, 0), (.getfield 30, 0, 4), (.getfield 77, 2, 0), (.aload_n 0, 0, 0), (.getfield 30, 0, 4), (.getfield 81, 2, 1)]
def oX0_closeAlong_81 : List xO := [(.iinc 4 1, 0, 0), (.goto (-81), 3, 0)]
def oX0_closeAlong_87 : List xO := [(.return_, 0, 0)]
def AX0_closeAlong : List (Nat × List xO) := [(0, oX0_closeAlong_0), (3, oX0_closeAlong_3), (38, oX0_closeAlong_38), (81, oX0_closeAlong_81), (87, oX0_closeAlong_87)]
theorem aX0_closeAlong : xTok tX0_closeAlong AX0_closeAlong = true := by decide +kernel
theorem rX0_closeAlong : tX0_closeAlong.2.2.2.2 = none := rfl
theorem cX0_closeAlong_35 {l : Launch} {d mc ms : Nat} {Q : xP} {kc ks n : Nat} {L : xL} {rest : List Value} {ws : xW} {v0 : Value} {b : Nat} {vs : List Value} (hw : ws b = some (6, .inr (.inr (.inr vs)))) {dc cc cs : Nat} {Q' : xP} (hd : dc + 1 ≤ d) (hkc : cc ≤ kc) (hks : cs ≤ ks) (hr : (rest.map fun v => v.category).sum ≤ 8) (hM : xM l tX6_uses dc cc cs [.ref b, v0] n ws Q') (k : ∀ r n' ws', Q' r n' ws' → xX l tX0_closeAlong d mc ms Q (kc - cc) (ks - cs) 38 L (r.toList ++ rest) n' ws') : xX l tX0_closeAlong d mc ms Q kc ks 35 L (v0 :: .ref b :: rest) n ws := xcallV (t := tX0_closeAlong) (As := [v0]) rfl mX6_uses k0_92 (by decide +kernel) rfl rfl hw (by decide) hr hd hkc hks hM k
theorem cX0_closeAlong_78 {l : Launch} {d mc ms : Nat} {Q : xP} {kc ks n : Nat} {L : xL} {rest : List Value} {ws : xW} {v0 v1 : Value} {b : Nat} {vs : List Value} (hw : ws b = some (2, .inr (.inr (.inr vs)))) {dc cc cs : Nat} {Q' : xP} (hd : dc + 1 ≤ d) (hkc : cc ≤ kc) (hks : cs ≤ ks) (hr : (rest.map fun v => v.category).sum ≤ 8) (hM : xM l tX2_set dc cc cs [.ref b, v0, v1] n ws Q') (k : ∀ r n' ws', Q' r n' ws' → xX l tX0_closeAlong d mc ms Q (kc - cc) (ks - cs) 81 L (r.toList ++ rest) n' ws') : xX l tX0_closeAlong d mc ms Q kc ks 78 L (v1 :: v0 :: .ref b :: rest) n ws := xcallV (t := tX0_closeAlong) (As := [v0, v1]) rfl mX2_set k0_84 (by decide +kernel) rfl rfl hw (by decide) hr hd hkc hks hM k
def oX1_init_0 : List xO := [(.aload_n 0, 0, 0)]
def oX1_init_4 : List xO := [(.aload_n 0, 0, 0), (.bipush 48, 0, 0), (.newarray .int, 0, 0), (.putfield 9, 1, 0), (.aload_n 0, 0, 0), (.bipush 10, 0, 0), (.newarray .int, 0, 0), (.putfield 15, 1, 1), (.aload_n 0, 0, 0), (.bipush 10, 0, 0), (.newarray .int, 0, 0), (.putfield 18, 1, 2), (.return_, 0, 0)]
def AX1_init : List (Nat × List xO) := [(0, oX1_init_0), (4, oX1_init_4)]
theorem aX1_init : xTok tX1_init AX1_init = true := by decide +kernel
theorem rX1_init : tX1_init.2.2.2.2 = none := rfl
theorem cX1_init_1 {l : Launch} {d mc ms : Nat} {Q : xP} {kc ks n : Nat} {L : xL} {rest : List Value} {ws : xW} {b : Nat} (hd : 1 ≤ d) (hr : (rest.map fun v => v.category).sum ≤ 8) (k : xX l tX1_init d mc ms Q kc ks 4 L rest n ws) : xX l tX1_init d mc ms Q kc ks 1 L (.ref b :: rest) n ws := xcallO (t := tX1_init) rfl k1_3 (by decide +kernel) hd hr k
def oX1_most_0 : List xO := [(.iconst 0, 0, 0), (.istore 5, 0, 0)]
def oX1_most_3 : List xO := [(.iload 5, 0, 0), (.aload_n 1, 0, 0), (.getfield 21, 4, 1), (.if_icmp .ge 45, 54, 0), (.aload_n 0, 0, 0), (.getfield 9, 1, 0), (.iconst 2, 0, 0), (.iload 5, 0, 0), (.imul, 0, 0), (.aload_n 1, 0, 0), (.getfield 27, 4, 7), (.iload 5, 0, 0), (.iaload, 0, 0), (.aload_n 2, 0, 0), (.getfield 30, 3, 0), (.iload 5, 0, 0), (.iaload, 0, 0), (.isub, 0, 0), (.iastore, 0, 0), (.aload_n 0, 0, 0), (.getfield 9, 1, 0), (.iconst 2, 0, 0), (.iload 5, 0, 0), (.imul, 0, 0), (.iconst 1, 0, 0), (.iadd, 0, 0), (.iconst 0, 0, 0), (.iastore, 0, 0), (.iinc 5 1, 0, 0), (.goto (-48), 3, 0)]
def oX1_most_54 : List xO := [(.iconst 0, 0, 0), (.istore 5, 0, 0), (.iconst 0, 0, 0), (.istore 6, 0, 0)]
def oX1_most_60 : List xO := [(.iload 6, 0, 0), (.sipush 24001, 0, 0), (.if_icmp .ge 32, 97, 0), (.aload_n 0, 0, 0), (.aload_n 1, 0, 0), (.iload_n 3, 0, 0), (.iload 4, 0, 0)]
def oX1_most_76 : List xO := [(.ifCond .eq 21, 97, 0), (.iload 5, 0, 0), (.aload_n 0, 0, 0), (.aload_n 1, 0, 0), (.iload 4, 0, 0)]
def oX1_most_88 : List xO := [(.iadd, 0, 0), (.istore 5, 0, 0), (.iinc 6 1, 0, 0), (.goto (-34), 60, 0)]
def oX1_most_97 : List xO := [(.iload 5, 0, 0), (.ireturn, 0, 0)]
def AX1_most : List (Nat × List xO) := [(0, oX1_most_0), (3, oX1_most_3), (54, oX1_most_54), (60, oX1_most_60), (76, oX1_most_76), (88, oX1_most_88), (97, oX1_most_97)]
theorem aX1_most : xTok tX1_most AX1_most = true := by decide +kernel
theorem rX1_most : tX1_most.2.2.2.2 = (some .int) := rfl
theorem cX1_most_73 {l : Launch} {d mc ms : Nat} {Q : xP} {kc ks n : Nat} {L : xL} {rest : List Value} {ws : xW} {v0 v1 v2 : Value} {b : Nat} {vs : List Value} (hw : ws b = some (1, .inr (.inr (.inr vs)))) {dc cc cs : Nat} {Q' : xP} (hd : dc + 1 ≤ d) (hkc : cc ≤ kc) (hks : cs ≤ ks) (hr : (rest.map fun v => v.category).sum ≤ 8) (hM : xM l tX1_reaches dc cc cs [.ref b, v0, v1, v2] n ws Q') (k : ∀ r n' ws', Q' r n' ws' → xX l tX1_most d mc ms Q (kc - cc) (ks - cs) 76 L (r.toList ++ rest) n' ws') : xX l tX1_most d mc ms Q kc ks 73 L (v2 :: v1 :: v0 :: .ref b :: rest) n ws := xcallV (t := tX1_most) (As := [v0, v1, v2]) rfl mX1_reaches k1_35 (by decide +kernel) rfl rfl hw (by decide) hr hd hkc hks hM k
theorem cX1_most_85 {l : Launch} {d mc ms : Nat} {Q : xP} {kc ks n : Nat} {L : xL} {rest : List Value} {ws : xW} {v0 v1 : Value} {b : Nat} {vs : List Value} (hw : ws b = some (1, .inr (.inr (.inr vs)))) {dc cc cs : Nat} {Q' : xP} (hd : dc + 1 ≤ d) (hkc : cc ≤ kc) (hks : cs ≤ ks) (hr : (rest.map fun v => v.category).sum ≤ 8) (hM : xM l tX1_push dc cc cs [.ref b, v0, v1] n ws Q') (k : ∀ r n' ws', Q' r n' ws' → xX l tX1_most d mc ms Q (kc - cc) (ks - cs) 88 L (r.toList ++ rest) n' ws') : xX l tX1_most d mc ms Q kc ks 85 L (v1 :: v0 :: .ref b :: rest) n ws := xcallV (t := tX1_most) (As := [v0, v1]) rfl mX1_push k1_39 (by decide +kernel) rfl rfl hw (by decide) hr hd hkc hks hM k
def oX1_reaches_0 : List xO := [(.iconst 1, 0, 0), (.iload_n 2, 0, 0), (.ishl, 0, 0), (.istore 4, 0, 0), (.iconst 1, 0, 0), (.istore 5, 0, 0), (.aload_n 0, 0, 0), (.getfield 18, 1, 2), (.iconst 0, 0, 0), (.iload_n 2, 0, 0), (.iastore, 0, 0), (.aload_n 0, 0, 0), (.getfield 15, 1, 1), (.iload_n 2, 0, 0), (.iconst (-1), 0, 0), (.iastore, 0, 0), (.iconst 0, 0, 0), (.istore 6, 0, 0)]
def oX1_reaches_25 : List xO := [(.iload 6, 0, 0), (.iload 5, 0, 0), (.if_icmp .ge 112, 141, 0), (.iload 6, 0, 0), (.bipush 10, 0, 0), (.if_icmp .ge 105, 141, 0), (.iconst 0, 0, 0), (.istore 7, 0, 0)]
def oX1_reaches_42 : List xO := [(.iload 7, 0, 0), (.iconst 2, 0, 0), (.aload_n 1, 0, 0), (.getfield 21, 4, 1), (.imul, 0, 0), (.if_icmp .ge 85, 135, 0), (.aload_n 1, 0, 0), (.iload 7, 0, 0), (.iconst 1, 0, 0), (.ixor, 0, 0)]
def oX1_reaches_61 : List xO := [(.istore 8, 0, 0), (.aload_n 0, 0, 0), (.getfield 9, 1, 0), (.iload 7, 0, 0), (.iaload, 0, 0), (.ifCond .le 59, 129, 0), (.aload_n 1, 0, 0), (.iload 7, 0, 0)]
def oX1_reaches_79 : List xO := [(.aload_n 0, 0, 0), (.getfield 18, 1, 2), (.iload 6, 0, 0), (.iaload, 0, 0), (.if_icmp .ne 43, 129, 0), (.iload 4, 0, 0), (.iload 8, 0, 0), (.ishr, 0, 0), (.iconst 1, 0, 0), (.iand, 0, 0), (.ifCond .ne 33, 129, 0), (.iload 4, 0, 0), (.iconst 1, 0, 0), (.iload 8, 0, 0), (.ishl, 0, 0), (.ior, 0, 0), (.istore 4, 0, 0), (.aload_n 0, 0, 0), (.getfield 15, 1, 1), (.iload 8, 0, 0), (.iload 7, 0, 0), (.iastore, 0, 0), (.aload_n 0, 0, 0), (.getfield 18, 1, 2), (.iload 5, 0, 0), (.iinc 5 1, 0, 0), (.iload 8, 0, 0), (.iastore, 0, 0)]
def oX1_reaches_129 : List xO := [(.iinc 7 1, 0, 0), (.goto (-90), 42, 0)]
def oX1_reaches_135 : List xO := [(.iinc 6 1, 0, 0), (.goto (-113), 25, 0)]
def oX1_reaches_141 : List xO := [(.iload 4, 0, 0), (.iload_n 3, 0, 0), (.ishr, 0, 0), (.iconst 1, 0, 0), (.iand, 0, 0), (.iconst 1, 0, 0), (.if_icmp .ne 7, 155, 0), (.iconst 1, 0, 0), (.goto 4, 156, 0)]
def oX1_reaches_155 : List xO := [(.iconst 0, 0, 0)]
def oX1_reaches_156 : List xO := [(.ireturn, 0, 0)]
def AX1_reaches : List (Nat × List xO) := [(0, oX1_reaches_0), (25, oX1_reaches_25), (42, oX1_reaches_42), (61, oX1_reaches_61), (79, oX1_reaches_79), (129, oX1_reaches_129), (135, oX1_reaches_135), (141, oX1_reaches_141), (155, oX1_reaches_155), (156, oX1_reaches_156)]
theorem aX1_reaches : xTok tX1_reaches AX1_reaches = true := by decide +kernel
theorem rX1_reaches : tX1_reaches.2.2.2.2 = (some .boolean) := rfl
theorem cX1_reaches_58 {l : Launch} {d mc ms : Nat} {Q : xP} {kc ks n : Nat} {L : xL} {rest : List Value} {ws : xW} {v0 v1 : Value} {dc cc cs : Nat} {Q' : xP} (hd : dc + 1 ≤ d) (hkc : cc ≤ kc) (hks : cs ≤ ks) (hr : (rest.map fun v => v.category).sum ≤ 8) (hM : xM l tX1_startOf dc cc cs [v0, v1] n ws Q') (k : ∀ r n' ws', Q' r n' ws' → xX l tX1_reaches d mc ms Q (kc - cc) (ks - cs) 61 L (r.toList ++ rest) n' ws') : xX l tX1_reaches d mc ms Q kc ks 58 L (v1 :: v0 :: rest) n ws := xcallS (t := tX1_reaches) (As := [v0, v1]) rfl mX1_startOf k1_43 (by decide +kernel) rfl rfl hr hd hkc hks hM k
theorem cX1_reaches_76 {l : Launch} {d mc ms : Nat} {Q : xP} {kc ks n : Nat} {L : xL} {rest : List Value} {ws : xW} {v0 v1 : Value} {dc cc cs : Nat} {Q' : xP} (hd : dc + 1 ≤ d) (hkc : cc ≤ kc) (hks : cs ≤ ks) (hr : (rest.map fun v => v.category).sum ≤ 8) (hM : xM l tX1_startOf dc cc cs [v0, v1] n ws Q') (k : ∀ r n' ws', Q' r n' ws' → xX l tX1_reaches d mc ms Q (kc - cc) (ks - cs) 79 L (r.toList ++ rest) n' ws') : xX l tX1_reaches d mc ms Q kc ks 76 L (v1 :: v0 :: rest) n ws := xcallS (t := tX1_reaches) (As := [v0, v1]) rfl mX1_startOf k1_43 (by decide +kernel) rfl rfl hr hd hkc hks hM k
def oX1_push_0 : List xO := [(.sipush 1000, 0, 0), (.istore_n 3, 0, 0), (.aload_n 0, 0, 0), (.getfield 15, 1, 1), (.iload_n 2, 0, 0), (.iaload, 0, 0), (.istore 4, 0, 0), (.iconst 0, 0, 0), (.istore 5, 0, 0)]
def oX1_push_15 : List xO := [(.iload 5, 0, 0), (.bipush 10, 0, 0), (.if_icmp .ge 40, 59, 0), (.iload 4, 0, 0), (.iconst (-1), 0, 0), (.if_icmp .eq 34, 59, 0), (.iload_n 3, 0, 0), (.aload_n 0, 0, 0), (.getfield 9, 1, 0), (.iload 4, 0, 0), (.iaload, 0, 0)]
def oX1_push_39 : List xO := [(.istore_n 3, 0, 0), (.aload_n 0, 0, 0), (.getfield 15, 1, 1), (.aload_n 1, 0, 0), (.iload 4, 0, 0)]
def oX1_push_50 : List xO := [(.iaload, 0, 0), (.istore 4, 0, 0), (.iinc 5 1, 0, 0), (.goto (-41), 15, 0)]
def oX1_push_59 : List xO := [(.aload_n 0, 0, 0), (.getfield 15, 1, 1), (.iload_n 2, 0, 0), (.iaload, 0, 0), (.istore 4, 0, 0), (.iconst 0, 0, 0), (.istore 5, 0, 0)]
def oX1_push_70 : List xO := [(.iload 5, 0, 0), (.bipush 10, 0, 0), (.if_icmp .ge 52, 126, 0), (.iload 4, 0, 0), (.iconst (-1), 0, 0), (.if_icmp .eq 46, 126, 0), (.aload_n 0, 0, 0), (.getfield 9, 1, 0), (.iload 4, 0, 0), (.dup2, 0, 0), (.iaload, 0, 0), (.iload_n 3, 0, 0), (.isub, 0, 0), (.iastore, 0, 0), (.aload_n 0, 0, 0), (.getfield 9, 1, 0), (.iload 4, 0, 0), (.iconst 1, 0, 0), (.ixor, 0, 0), (.dup2, 0, 0), (.iaload, 0, 0), (.iload_n 3, 0, 0), (.iadd, 0, 0), (.iastore, 0, 0), (.aload_n 0, 0, 0), (.getfield 15, 1, 1), (.aload_n 1, 0, 0), (.iload 4, 0, 0)]
def oX1_push_117 : List xO := [(.iaload, 0, 0), (.istore 4, 0, 0), (.iinc 5 1, 0, 0), (.goto (-53), 70, 0)]
def oX1_push_126 : List xO := [(.iload_n 3, 0, 0), (.ireturn, 0, 0)]
def AX1_push : List (Nat × List xO) := [(0, oX1_push_0), (15, oX1_push_15), (39, oX1_push_39), (50, oX1_push_50), (59, oX1_push_59), (70, oX1_push_70), (117, oX1_push_117), (126, oX1_push_126)]
theorem aX1_push : xTok tX1_push AX1_push = true := by decide +kernel
theorem rX1_push : tX1_push.2.2.2.2 = (some .int) := rfl
theorem cX1_push_36 {l : Launch} {d mc ms : Nat} {Q : xP} {kc ks n : Nat} {L : xL} {rest : List Value} {ws : xW} {x y : Int32} (hd : 1 ≤ d) (hr : (rest.map fun v => v.category).sum ≤ 8) (k : xX l tX1_push d mc ms Q kc ks 39 L (.int (if y < x then y else x) :: rest) n ws) : xX l tX1_push d mc ms Q kc ks 36 L (.int y :: .int x :: rest) n ws := xcallMin (t := tX1_push) rfl k1_46 (by decide +kernel) hd hr k
theorem cX1_push_47 {l : Launch} {d mc ms : Nat} {Q : xP} {kc ks n : Nat} {L : xL} {rest : List Value} {ws : xW} {v0 v1 : Value} {dc cc cs : Nat} {Q' : xP} (hd : dc + 1 ≤ d) (hkc : cc ≤ kc) (hks : cs ≤ ks) (hr : (rest.map fun v => v.category).sum ≤ 8) (hM : xM l tX1_startOf dc cc cs [v0, v1] n ws Q') (k : ∀ r n' ws', Q' r n' ws' → xX l tX1_push d mc ms Q (kc - cc) (ks - cs) 50 L (r.toList ++ rest) n' ws') : xX l tX1_push d mc ms Q kc ks 47 L (v1 :: v0 :: rest) n ws := xcallS (t := tX1_push) (As := [v0, v1]) rfl mX1_startOf k1_43 (by decide +kernel) rfl rfl hr hd hkc hks hM k
theorem cX1_push_114 {l : Launch} {d mc ms : Nat} {Q : xP} {kc ks n : Nat} {L : xL} {rest : List Value} {ws : xW} {v0 v1 : Value} {dc cc cs : Nat} {Q' : xP} (hd : dc + 1 ≤ d) (hkc : cc ≤ kc) (hks : cs ≤ ks) (hr : (rest.map fun v => v.category).sum ≤ 8) (hM : xM l tX1_startOf dc cc cs [v0, v1] n ws Q') (k : ∀ r n' ws', Q' r n' ws' → xX l tX1_push d mc ms Q (kc - cc) (ks - cs) 117 L (r.toList ++ rest) n' ws') : xX l tX1_push d mc ms Q kc ks 114 L (v1 :: v0 :: rest) n ws := xcallS (t := tX1_push) (As := [v0, v1]) rfl mX1_startOf k1_43 (by decide +kernel) rfl rfl hr hd hkc hks hM k
def oX1_startOf_0 : List xO := [(.iload_n 1, 0, 0), (.iconst 1, 0, 0), (.iand, 0, 0), (.ifCond .ne 14, 17, 0), (.aload_n 0, 0, 0), (.getfield 52, 4, 5), (.iload_n 1, 0, 0), (.iconst 1, 0, 0), (.ishr, 0, 0), (.iaload, 0, 0), (.goto 11, 25, 0)]
def oX1_startOf_17 : List xO := [(.aload_n 0, 0, 0), (.getfield 55, 4, 6), (.iload_n 1, 0, 0), (.iconst 1, 0, 0), (.ishr, 0, 0), (.iaload, 0, 0)]
def oX1_startOf_25 : List xO := [(.ireturn, 0, 0)]
def AX1_startOf : List (Nat × List xO) := [(0, oX1_startOf_0), (17, oX1_startOf_17), (25, oX1_startOf_25)]
theorem aX1_startOf : xTok tX1_startOf AX1_startOf = true := by decide +kernel
theorem rX1_startOf : tX1_startOf.2.2.2.2 = (some .int) := rfl
def oX2_init_0 : List xO := [(.aload_n 0, 0, 0)]
def oX2_init_4 : List xO := [(.aload_n 0, 0, 0), (.lconst 1, 0, 0), (.putfield 7, 2, 1), (.return_, 0, 0)]
def AX2_init : List (Nat × List xO) := [(0, oX2_init_0), (4, oX2_init_4)]
theorem aX2_init : xTok tX2_init AX2_init = true := by decide +kernel
theorem rX2_init : tX2_init.2.2.2.2 = none := rfl
theorem cX2_init_1 {l : Launch} {d mc ms : Nat} {Q : xP} {kc ks n : Nat} {L : xL} {rest : List Value} {ws : xW} {b : Nat} (hd : 1 ≤ d) (hr : (rest.map fun v => v.category).sum ≤ 8) (k : xX l tX2_init d mc ms Q kc ks 4 L rest n ws) : xX l tX2_init d mc ms Q kc ks 1 L (.ref b :: rest) n ws := xcallO (t := tX2_init) rfl k2_1 (by decide +kernel) hd hr k
def oX2_set_0 : List xO := [(.lload_n 1, 0, 0), (.lload_n 3, 0, 0)]
def oX2_set_5 : List xO := [(.lstore 5, 0, 0), (.lload 5, 0, 0), (.lconst 0, 0, 0), (.lcmp, 0, 0), (.ifCond .le 19, 30, 0), (.aload_n 0, 0, 0), (.lload_n 1, 0, 0), (.lload 5, 0, 0), (.ldiv, 0, 0), (.putfield 17, 2, 0), (.aload_n 0, 0, 0), (.lload_n 3, 0, 0), (.lload 5, 0, 0), (.ldiv, 0, 0), (.putfield 7, 2, 1)]
def oX2_set_30 : List xO := [(.return_, 0, 0)]
def AX2_set : List (Nat × List xO) := [(0, oX2_set_0), (5, oX2_set_5), (30, oX2_set_30)]
theorem aX2_set : xTok tX2_set AX2_set = true := by decide +kernel
theorem rX2_set : tX2_set.2.2.2.2 = none := rfl
theorem cX2_set_2 {l : Launch} {d mc ms : Nat} {Q : xP} {kc ks n : Nat} {L : xL} {rest : List Value} {ws : xW} {v0 v1 : Value} {dc cc cs : Nat} {Q' : xP} (hd : dc + 1 ≤ d) (hkc : cc ≤ kc) (hks : cs ≤ ks) (hr : (rest.map fun v => v.category).sum ≤ 8) (hM : xM l tX2_commonFactor dc cc cs [v0, v1] n ws Q') (k : ∀ r n' ws', Q' r n' ws' → xX l tX2_set d mc ms Q (kc - cc) (ks - cs) 5 L (r.toList ++ rest) n' ws') : xX l tX2_set d mc ms Q kc ks 2 L (v1 :: v0 :: rest) n ws := xcallS (t := tX2_set) (As := [v0, v1]) rfl mX2_commonFactor k2_13 (by decide +kernel) rfl rfl hr hd hkc hks hM k
def oX2_subtract_0 : List xO := [(.aload_n 0, 0, 0), (.aload_n 0, 0, 0), (.getfield 17, 2, 0), (.aload_n 1, 0, 0), (.getfield 7, 2, 1), (.lmul, 0, 0), (.aload_n 1, 0, 0), (.getfield 17, 2, 0), (.aload_n 0, 0, 0), (.getfield 7, 2, 1), (.lmul, 0, 0), (.lsub, 0, 0), (.aload_n 0, 0, 0), (.getfield 7, 2, 1), (.aload_n 1, 0, 0), (.getfield 7, 2, 1), (.lmul, 0, 0)]
def oX2_subtract_32 : List xO := [(.return_, 0, 0)]
def AX2_subtract : List (Nat × List xO) := [(0, oX2_subtract_0), (32, oX2_subtract_32)]
theorem aX2_subtract : xTok tX2_subtract AX2_subtract = true := by decide +kernel
theorem rX2_subtract : tX2_subtract.2.2.2.2 = none := rfl
theorem cX2_subtract_29 {l : Launch} {d mc ms : Nat} {Q : xP} {kc ks n : Nat} {L : xL} {rest : List Value} {ws : xW} {v0 v1 : Value} {b : Nat} {vs : List Value} (hw : ws b = some (2, .inr (.inr (.inr vs)))) {dc cc cs : Nat} {Q' : xP} (hd : dc + 1 ≤ d) (hkc : cc ≤ kc) (hks : cs ≤ ks) (hr : (rest.map fun v => v.category).sum ≤ 8) (hM : xM l tX2_set dc cc cs [.ref b, v0, v1] n ws Q') (k : ∀ r n' ws', Q' r n' ws' → xX l tX2_subtract d mc ms Q (kc - cc) (ks - cs) 32 L (r.toList ++ rest) n' ws') : xX l tX2_subtract d mc ms Q kc ks 29 L (v1 :: v0 :: .ref b :: rest) n ws := xcallV (t := tX2_subtract) (As := [v0, v1]) rfl mX2_set k2_20 (by decide +kernel) rfl rfl hw (by decide) hr hd hkc hks hM k
def oX2_isLessThan_0 : List xO := [(.aload_n 0, 0, 0), (.getfield 17, 2, 0), (.aload_n 1, 0, 0), (.getfield 7, 2, 1), (.lmul, 0, 0), (.aload_n 1, 0, 0), (.getfield 17, 2, 0), (.aload_n 0, 0, 0), (.getfield 7, 2, 1), (.lmul, 0, 0), (.lcmp, 0, 0), (.ifCond .ge 7, 26, 0), (.iconst 1, 0, 0), (.goto 4, 27, 0)]
def oX2_isLessThan_26 : List xO := [(.iconst 0, 0, 0)]
def oX2_isLessThan_27 : List xO := [(.ireturn, 0, 0)]
def AX2_isLessThan : List (Nat × List xO) := [(0, oX2_isLessThan_0), (26, oX2_isLessThan_26), (27, oX2_isLessThan_27)]
theorem aX2_isLessThan : xTok tX2_isLessThan AX2_isLessThan = true := by decide +kernel
theorem rX2_isLessThan : tX2_isLessThan.2.2.2.2 = (some .boolean) := rfl
def oX2_commonFactor_0 : List xO := [(.lload_n 0, 0, 0), (.lstore 4, 0, 0), (.lload_n 2, 0, 0), (.lstore 6, 0, 0), (.iconst 0, 0, 0), (.istore 8, 0, 0)]
def oX2_commonFactor_9 : List xO := [(.iload 8, 0, 0), (.bipush 100, 0, 0), (.if_icmp .ge 31, 44, 0), (.lload 6, 0, 0), (.lconst 0, 0, 0), (.lcmp, 0, 0), (.ifCond .eq 24, 44, 0), (.lload 4, 0, 0), (.lload 6, 0, 0), (.lrem, 0, 0), (.lstore 9, 0, 0), (.lload 6, 0, 0), (.lstore 4, 0, 0), (.lload 9, 0, 0), (.lstore 6, 0, 0), (.iinc 8 1, 0, 0), (.goto (-32), 9, 0)]
def oX2_commonFactor_44 : List xO := [(.lload 4, 0, 0), (.lreturn, 0, 0)]
def AX2_commonFactor : List (Nat × List xO) := [(0, oX2_commonFactor_0), (9, oX2_commonFactor_9), (44, oX2_commonFactor_44)]
theorem aX2_commonFactor : xTok tX2_commonFactor AX2_commonFactor = true := by decide +kernel
theorem rX2_commonFactor : tX2_commonFactor.2.2.2.2 = (some .long) := rfl
def oX3_init_0 : List xO := [(.aload_n 0, 0, 0)]
def oX3_init_4 : List xO := [(.aload_n 0, 0, 0), (.bipush 24, 0, 0), (.newarray .int, 0, 0), (.putfield 9, 3, 0), (.return_, 0, 0)]
def AX3_init : List (Nat × List xO) := [(0, oX3_init_0), (4, oX3_init_4)]
theorem aX3_init : xTok tX3_init AX3_init = true := by decide +kernel
theorem rX3_init : tX3_init.2.2.2.2 = none := rfl
theorem cX3_init_1 {l : Launch} {d mc ms : Nat} {Q : xP} {kc ks n : Nat} {L : xL} {rest : List Value} {ws : xW} {b : Nat} (hd : 1 ≤ d) (hr : (rest.map fun v => v.category).sum ≤ 8) (k : xX l tX3_init d mc ms Q kc ks 4 L rest n ws) : xX l tX3_init d mc ms Q kc ks 1 L (.ref b :: rest) n ws := xcallO (t := tX3_init) rfl k3_3 (by decide +kernel) hd hr k
def oX3_clear_0 : List xO := [(.iconst 0, 0, 0), (.istore_n 1, 0, 0)]
def oX3_clear_2 : List xO := [(.iload_n 1, 0, 0), (.bipush 24, 0, 0), (.if_icmp .ge 16, 21, 0), (.aload_n 0, 0, 0), (.getfield 9, 3, 0), (.iload_n 1, 0, 0), (.iconst 0, 0, 0), (.iastore, 0, 0), (.iinc 1 1, 0, 0), (.goto (-16), 2, 0)]
def oX3_clear_21 : List xO := [(.return_, 0, 0)]
def AX3_clear : List (Nat × List xO) := [(0, oX3_clear_0), (2, oX3_clear_2), (21, oX3_clear_21)]
theorem aX3_clear : xTok tX3_clear AX3_clear = true := by decide +kernel
theorem rX3_clear : tX3_clear.2.2.2.2 = none := rfl
def oX3_add_0 : List xO := [(.iconst 0, 0, 0), (.istore_n 3, 0, 0)]
def oX3_add_2 : List xO := [(.iload_n 3, 0, 0), (.aload_n 1, 0, 0), (.getfield 15, 6, 0), (.if_icmp .ge 24, 31, 0), (.aload_n 0, 0, 0), (.getfield 9, 3, 0), (.aload_n 1, 0, 0), (.getfield 21, 6, 2), (.iload_n 3, 0, 0), (.iaload, 0, 0), (.dup2, 0, 0), (.iaload, 0, 0), (.iload_n 2, 0, 0), (.iadd, 0, 0), (.iastore, 0, 0), (.iinc 3 1, 0, 0), (.goto (-26), 2, 0)]
def oX3_add_31 : List xO := [(.return_, 0, 0)]
def AX3_add : List (Nat × List xO) := [(0, oX3_add_0), (2, oX3_add_2), (31, oX3_add_31)]
theorem aX3_add : xTok tX3_add AX3_add = true := by decide +kernel
theorem rX3_add : tX3_add.2.2.2.2 = none := rfl
def oX3_addAll_0 : List xO := [(.aload_n 0, 0, 0)]
def oX3_addAll_4 : List xO := [(.iconst 0, 0, 0), (.istore 4, 0, 0)]
def oX3_addAll_7 : List xO := [(.iload 4, 0, 0), (.aload_n 1, 0, 0), (.getfield 27, 4, 2), (.if_icmp .ge 51, 64, 0), (.aload_n 2, 0, 0), (.getfield 32, 8, 0), (.iload 4, 0, 0), (.aaload, 0, 0), (.astore 5, 0, 0), (.aload 5, 0, 0), (.aload_n 3, 0, 0), (.iload 4, 0, 0), (.iaload, 0, 0)]
def oX3_addAll_34 : List xO := [(.ifCond .eq 24, 58, 0), (.aload_n 0, 0, 0), (.aload 5, 0, 0), (.getfield 44, 7, 1), (.aload_n 3, 0, 0), (.iload 4, 0, 0), (.iaload, 0, 0), (.aaload, 0, 0), (.aload_n 1, 0, 0), (.getfield 48, 4, 11), (.iload 4, 0, 0), (.iaload, 0, 0)]
def oX3_addAll_58 : List xO := [(.iinc 4 1, 0, 0), (.goto (-54), 7, 0)]
def oX3_addAll_64 : List xO := [(.return_, 0, 0)]
def AX3_addAll : List (Nat × List xO) := [(0, oX3_addAll_0), (4, oX3_addAll_4), (7, oX3_addAll_7), (34, oX3_addAll_34), (58, oX3_addAll_58), (64, oX3_addAll_64)]
theorem aX3_addAll : xTok tX3_addAll AX3_addAll = true := by decide +kernel
theorem rX3_addAll : tX3_addAll.2.2.2.2 = none := rfl
theorem cX3_addAll_1 {l : Launch} {d mc ms : Nat} {Q : xP} {kc ks n : Nat} {L : xL} {rest : List Value} {ws : xW} {b : Nat} {vs : List Value} (hw : ws b = some (3, .inr (.inr (.inr vs)))) {dc cc cs : Nat} {Q' : xP} (hd : dc + 1 ≤ d) (hkc : cc ≤ kc) (hks : cs ≤ ks) (hr : (rest.map fun v => v.category).sum ≤ 8) (hM : xM l tX3_clear dc cc cs [.ref b] n ws Q') (k : ∀ r n' ws', Q' r n' ws' → xX l tX3_addAll d mc ms Q (kc - cc) (ks - cs) 4 L (r.toList ++ rest) n' ws') : xX l tX3_addAll d mc ms Q kc ks 1 L (.ref b :: rest) n ws := xcallV (t := tX3_addAll) (As := []) rfl mX3_clear k3_24 (by decide +kernel) rfl rfl hw (by decide) hr hd hkc hks hM k
theorem cX3_addAll_31 {l : Launch} {d mc ms : Nat} {Q : xP} {kc ks n : Nat} {L : xL} {rest : List Value} {ws : xW} {v0 : Value} {b : Nat} {vs : List Value} (hw : ws b = some (7, .inr (.inr (.inr vs)))) {dc cc cs : Nat} {Q' : xP} (hd : dc + 1 ≤ d) (hkc : cc ≤ kc) (hks : cs ≤ ks) (hr : (rest.map fun v => v.category).sum ≤ 8) (hM : xM l tX7_has dc cc cs [.ref b, v0] n ws Q') (k : ∀ r n' ws', Q' r n' ws' → xX l tX3_addAll d mc ms Q (kc - cc) (ks - cs) 34 L (r.toList ++ rest) n' ws') : xX l tX3_addAll d mc ms Q kc ks 31 L (v0 :: .ref b :: rest) n ws := xcallV (t := tX3_addAll) (As := [v0]) rfl mX7_has k3_38 (by decide +kernel) rfl rfl hw (by decide) hr hd hkc hks hM k
theorem cX3_addAll_55 {l : Launch} {d mc ms : Nat} {Q : xP} {kc ks n : Nat} {L : xL} {rest : List Value} {ws : xW} {v0 v1 : Value} {b : Nat} {vs : List Value} (hw : ws b = some (3, .inr (.inr (.inr vs)))) {dc cc cs : Nat} {Q' : xP} (hd : dc + 1 ≤ d) (hkc : cc ≤ kc) (hks : cs ≤ ks) (hr : (rest.map fun v => v.category).sum ≤ 8) (hM : xM l tX3_add dc cc cs [.ref b, v0, v1] n ws Q') (k : ∀ r n' ws', Q' r n' ws' → xX l tX3_addAll d mc ms Q (kc - cc) (ks - cs) 58 L (r.toList ++ rest) n' ws') : xX l tX3_addAll d mc ms Q kc ks 55 L (v1 :: v0 :: .ref b :: rest) n ws := xcallV (t := tX3_addAll) (As := [v0, v1]) rfl mX3_add k3_51 (by decide +kernel) rfl rfl hw (by decide) hr hd hkc hks hM k
def oX3_leavesRoomFor_0 : List xO := [(.iconst 0, 0, 0), (.istore 4, 0, 0)]
def oX3_leavesRoomFor_3 : List xO := [(.iload 4, 0, 0), (.aload_n 1, 0, 0), (.getfield 15, 6, 0), (.if_icmp .ge 36, 45, 0), (.aload_n 1, 0, 0), (.getfield 21, 6, 2), (.iload 4, 0, 0), (.iaload, 0, 0), (.istore 5, 0, 0), (.aload_n 0, 0, 0), (.getfield 9, 3, 0), (.iload 5, 0, 0), (.iaload, 0, 0), (.iload_n 2, 0, 0), (.iadd, 0, 0), (.aload_n 3, 0, 0), (.iload 5, 0, 0), (.iaload, 0, 0), (.if_icmp .le 5, 39, 0), (.iconst 0, 0, 0), (.ireturn, 0, 0)]
def oX3_leavesRoomFor_39 : List xO := [(.iinc 4 1, 0, 0), (.goto (-39), 3, 0)]
def oX3_leavesRoomFor_45 : List xO := [(.iconst 1, 0, 0), (.ireturn, 0, 0)]
def AX3_leavesRoomFor : List (Nat × List xO) := [(0, oX3_leavesRoomFor_0), (3, oX3_leavesRoomFor_3), (39, oX3_leavesRoomFor_39), (45, oX3_leavesRoomFor_45)]
theorem aX3_leavesRoomFor : xTok tX3_leavesRoomFor AX3_leavesRoomFor = true := by decide +kernel
theorem rX3_leavesRoomFor : tX3_leavesRoomFor.2.2.2.2 = (some .boolean) := rfl
def oX3_firstAbove_0 : List xO := [(.iconst 0, 0, 0), (.istore_n 3, 0, 0)]
def oX3_firstAbove_2 : List xO := [(.iload_n 3, 0, 0), (.iload_n 2, 0, 0), (.if_icmp .ge 23, 27, 0), (.aload_n 0, 0, 0), (.getfield 9, 3, 0), (.iload_n 3, 0, 0), (.iaload, 0, 0), (.aload_n 1, 0, 0), (.iload_n 3, 0, 0), (.iaload, 0, 0), (.if_icmp .le 5, 21, 0), (.iload_n 3, 0, 0), (.ireturn, 0, 0)]
def oX3_firstAbove_21 : List xO := [(.iinc 3 1, 0, 0), (.goto (-22), 2, 0)]
def oX3_firstAbove_27 : List xO := [(.iconst (-1), 0, 0), (.ireturn, 0, 0)]
def AX3_firstAbove : List (Nat × List xO) := [(0, oX3_firstAbove_0), (2, oX3_firstAbove_2), (21, oX3_firstAbove_21), (27, oX3_firstAbove_27)]
theorem aX3_firstAbove : xTok tX3_firstAbove AX3_firstAbove = true := by decide +kernel
theorem rX3_firstAbove : tX3_firstAbove.2.2.2.2 = (some .int) := rfl
def oX4_init_0 : List xO := [(.aload_n 0, 0, 0)]
def oX4_init_4 : List xO := [(.aload_n 0, 0, 0), (.bipush 24, 0, 0), (.newarray .int, 0, 0), (.putfield 9, 4, 5), (.aload_n 0, 0, 0), (.bipush 24, 0, 0), (.newarray .int, 0, 0), (.putfield 15, 4, 6), (.aload_n 0, 0, 0), (.bipush 24, 0, 0), (.newarray .int, 0, 0), (.putfield 18, 4, 7), (.aload_n 0, 0, 0), (.bipush 24, 0, 0), (.newarray .int, 0, 0), (.putfield 21, 4, 8), (.aload_n 0, 0, 0), (.bipush 6, 0, 0), (.newarray .int, 0, 0), (.putfield 24, 4, 9), (.aload_n 0, 0, 0), (.bipush 6, 0, 0), (.newarray .int, 0, 0), (.putfield 27, 4, 10), (.aload_n 0, 0, 0), (.bipush 6, 0, 0), (.newarray .int, 0, 0), (.putfield 30, 4, 11), (.aload_n 0, 0, 0), (.bipush 6, 0, 0), (.newarray .int, 0, 0), (.putfield 33, 4, 12), (.return_, 0, 0)]
def AX4_init : List (Nat × List xO) := [(0, oX4_init_0), (4, oX4_init_4)]
theorem aX4_init : xTok tX4_init AX4_init = true := by decide +kernel
theorem rX4_init : tX4_init.2.2.2.2 = none := rfl
theorem cX4_init_1 {l : Launch} {d mc ms : Nat} {Q : xP} {kc ks n : Nat} {L : xL} {rest : List Value} {ws : xW} {b : Nat} (hd : 1 ≤ d) (hr : (rest.map fun v => v.category).sum ≤ 8) (k : xX l tX4_init d mc ms Q kc ks 4 L rest n ws) : xX l tX4_init d mc ms Q kc ks 1 L (.ref b :: rest) n ws := xcallO (t := tX4_init) rfl k4_3 (by decide +kernel) hd hr k
def oX4_areTwoNodes_0 : List xO := [(.iload_n 1, 0, 0), (.iload_n 2, 0, 0), (.if_icmp .eq 35, 37, 0), (.iload_n 1, 0, 0), (.iconst 0, 0, 0), (.aload_n 0, 0, 0), (.getfield 36, 4, 0), (.iconst 1, 0, 0), (.isub, 0, 0)]
def oX4_areTwoNodes_16 : List xO := [(.ifCond .eq 21, 37, 0), (.iload_n 2, 0, 0), (.iconst 0, 0, 0), (.aload_n 0, 0, 0), (.getfield 36, 4, 0), (.iconst 1, 0, 0), (.isub, 0, 0)]
def oX4_areTwoNodes_30 : List xO := [(.ifCond .eq 7, 37, 0), (.iconst 1, 0, 0), (.goto 4, 38, 0)]
def oX4_areTwoNodes_37 : List xO := [(.iconst 0, 0, 0)]
def oX4_areTwoNodes_38 : List xO := [(.ireturn, 0, 0)]
def AX4_areTwoNodes : List (Nat × List xO) := [(0, oX4_areTwoNodes_0), (16, oX4_areTwoNodes_16), (30, oX4_areTwoNodes_30), (37, oX4_areTwoNodes_37), (38, oX4_areTwoNodes_38)]
theorem aX4_areTwoNodes : xTok tX4_areTwoNodes AX4_areTwoNodes = true := by decide +kernel
theorem rX4_areTwoNodes : tX4_areTwoNodes.2.2.2.2 = (some .boolean) := rfl
theorem cX4_areTwoNodes_13 {l : Launch} {d mc ms : Nat} {Q : xP} {kc ks n : Nat} {L : xL} {rest : List Value} {ws : xW} {v0 v1 v2 : Value} {dc cc cs : Nat} {Q' : xP} (hd : dc + 1 ≤ d) (hkc : cc ≤ kc) (hks : cs ≤ ks) (hr : (rest.map fun v => v.category).sum ≤ 8) (hM : xM l tX9_isWithin dc cc cs [v0, v1, v2] n ws Q') (k : ∀ r n' ws', Q' r n' ws' → xX l tX4_areTwoNodes d mc ms Q (kc - cc) (ks - cs) 16 L (r.toList ++ rest) n' ws') : xX l tX4_areTwoNodes d mc ms Q kc ks 13 L (v2 :: v1 :: v0 :: rest) n ws := xcallSN (t := tX4_areTwoNodes) (As := [v0, v1, v2]) rfl mX9_isWithin k4_40 nX9_isWithin (by decide +kernel) rfl rfl hr hd hkc hks hM k
theorem cX4_areTwoNodes_27 {l : Launch} {d mc ms : Nat} {Q : xP} {kc ks n : Nat} {L : xL} {rest : List Value} {ws : xW} {v0 v1 v2 : Value} {dc cc cs : Nat} {Q' : xP} (hd : dc + 1 ≤ d) (hkc : cc ≤ kc) (hks : cs ≤ ks) (hr : (rest.map fun v => v.category).sum ≤ 8) (hM : xM l tX9_isWithin dc cc cs [v0, v1, v2] n ws Q') (k : ∀ r n' ws', Q' r n' ws' → xX l tX4_areTwoNodes d mc ms Q (kc - cc) (ks - cs) 30 L (r.toList ++ rest) n' ws') : xX l tX4_areTwoNodes d mc ms Q kc ks 27 L (v2 :: v1 :: v0 :: rest) n ws := xcallSN (t := tX4_areTwoNodes) (As := [v0, v1, v2]) rfl mX9_isWithin k4_40 nX9_isWithin (by decide +kernel) rfl rfl hr hd hkc hks hM k
def oX4_isArc_0 : List xO := [(.iload_n 1, 0, 0), (.iconst 0, 0, 0), (.aload_n 0, 0, 0), (.getfield 44, 4, 1), (.iconst 1, 0, 0), (.isub, 0, 0)]
def oX4_isArc_11 : List xO := [(.ireturn, 0, 0)]
def AX4_isArc : List (Nat × List xO) := [(0, oX4_isArc_0), (11, oX4_isArc_11)]
theorem aX4_isArc : xTok tX4_isArc AX4_isArc = true := by decide +kernel
theorem rX4_isArc : tX4_isArc.2.2.2.2 = (some .boolean) := rfl
theorem cX4_isArc_8 {l : Launch} {d mc ms : Nat} {Q : xP} {kc ks n : Nat} {L : xL} {rest : List Value} {ws : xW} {v0 v1 v2 : Value} {dc cc cs : Nat} {Q' : xP} (hd : dc + 1 ≤ d) (hkc : cc ≤ kc) (hks : cs ≤ ks) (hr : (rest.map fun v => v.category).sum ≤ 8) (hM : xM l tX9_isWithin dc cc cs [v0, v1, v2] n ws Q') (k : ∀ r n' ws', Q' r n' ws' → xX l tX4_isArc d mc ms Q (kc - cc) (ks - cs) 11 L (r.toList ++ rest) n' ws') : xX l tX4_isArc d mc ms Q kc ks 8 L (v2 :: v1 :: v0 :: rest) n ws := xcallSN (t := tX4_isArc) (As := [v0, v1, v2]) rfl mX9_isWithin k4_40 nX9_isWithin (by decide +kernel) rfl rfl hr hd hkc hks hM k
def oX4_isGood_0 : List xO := [(.iload_n 1, 0, 0), (.iconst 0, 0, 0), (.aload_n 0, 0, 0), (.getfield 47, 4, 2), (.iconst 1, 0, 0), (.isub, 0, 0)]
def oX4_isGood_11 : List xO := [(.ireturn, 0, 0)]
def AX4_isGood : List (Nat × List xO) := [(0, oX4_isGood_0), (11, oX4_isGood_11)]
theorem aX4_isGood : xTok tX4_isGood AX4_isGood = true := by decide +kernel
theorem rX4_isGood : tX4_isGood.2.2.2.2 = (some .boolean) := rfl
theorem cX4_isGood_8 {l : Launch} {d mc ms : Nat} {Q : xP} {kc ks n : Nat} {L : xL} {rest : List Value} {ws : xW} {v0 v1 v2 : Value} {dc cc cs : Nat} {Q' : xP} (hd : dc + 1 ≤ d) (hkc : cc ≤ kc) (hks : cs ≤ ks) (hr : (rest.map fun v => v.category).sum ≤ 8) (hM : xM l tX9_isWithin dc cc cs [v0, v1, v2] n ws Q') (k : ∀ r n' ws', Q' r n' ws' → xX l tX4_isGood d mc ms Q (kc - cc) (ks - cs) 11 L (r.toList ++ rest) n' ws') : xX l tX4_isGood d mc ms Q kc ks 8 L (v2 :: v1 :: v0 :: rest) n ws := xcallSN (t := tX4_isGood) (As := [v0, v1, v2]) rfl mX9_isWithin k4_40 nX9_isWithin (by decide +kernel) rfl rfl hr hd hkc hks hM k
def oX4_addArc_0 : List xO := [(.aload_n 0, 0, 0), (.getfield 9, 4, 5), (.aload_n 0, 0, 0), (.getfield 44, 4, 1), (.iload_n 1, 0, 0), (.iastore, 0, 0), (.aload_n 0, 0, 0), (.getfield 15, 4, 6), (.aload_n 0, 0, 0), (.getfield 44, 4, 1), (.iload_n 2, 0, 0), (.iastore, 0, 0), (.aload_n 0, 0, 0), (.getfield 18, 4, 7), (.aload_n 0, 0, 0), (.getfield 44, 4, 1), (.iload_n 3, 0, 0), (.iastore, 0, 0), (.aload_n 0, 0, 0), (.getfield 21, 4, 8), (.aload_n 0, 0, 0), (.getfield 44, 4, 1), (.iload 4, 0, 0), (.iastore, 0, 0), (.aload_n 0, 0, 0), (.dup, 0, 0), (.getfield 50, 4, 3), (.iconst 1, 0, 0), (.iadd, 0, 0), (.putfield 50, 4, 3), (.aload_n 0, 0, 0), (.dup, 0, 0), (.getfield 53, 4, 4), (.iconst 1, 0, 0), (.iadd, 0, 0), (.putfield 53, 4, 4), (.aload_n 0, 0, 0), (.dup, 0, 0), (.getfield 44, 4, 1), (.dup_x1, 0, 0), (.iconst 1, 0, 0), (.iadd, 0, 0), (.putfield 44, 4, 1), (.ireturn, 0, 0)]
def AX4_addArc : List (Nat × List xO) := [(0, oX4_addArc_0)]
theorem aX4_addArc : xTok tX4_addArc AX4_addArc = true := by decide +kernel
theorem rX4_addArc : tX4_addArc.2.2.2.2 = (some .int) := rfl
def oX4_addGood_0 : List xO := [(.aload_n 0, 0, 0), (.getfield 24, 4, 9), (.aload_n 0, 0, 0), (.getfield 47, 4, 2), (.iload_n 1, 0, 0), (.iastore, 0, 0), (.aload_n 0, 0, 0), (.getfield 27, 4, 10), (.aload_n 0, 0, 0), (.getfield 47, 4, 2), (.iload_n 2, 0, 0), (.iastore, 0, 0), (.aload_n 0, 0, 0), (.getfield 30, 4, 11), (.aload_n 0, 0, 0), (.getfield 47, 4, 2), (.iload_n 3, 0, 0), (.iastore, 0, 0), (.aload_n 0, 0, 0), (.getfield 33, 4, 12), (.aload_n 0, 0, 0), (.getfield 47, 4, 2), (.iload 4, 0, 0), (.iastore, 0, 0), (.aload_n 0, 0, 0), (.dup, 0, 0), (.getfield 50, 4, 3), (.iconst 1, 0, 0), (.iadd, 0, 0), (.putfield 50, 4, 3), (.aload_n 0, 0, 0), (.dup, 0, 0), (.getfield 53, 4, 4), (.iconst 1, 0, 0), (.iadd, 0, 0), (.putfield 53, 4, 4), (.aload_n 0, 0, 0), (.dup, 0, 0), (.getfield 47, 4, 2), (.dup_x1, 0, 0), (.iconst 1, 0, 0), (.iadd, 0, 0), (.putfield 47, 4, 2), (.ireturn, 0, 0)]
def AX4_addGood : List (Nat × List xO) := [(0, oX4_addGood_0)]
theorem aX4_addGood : xTok tX4_addGood AX4_addGood = true := by decide +kernel
theorem rX4_addGood : tX4_addGood.2.2.2.2 = (some .int) := rfl
def oX4_isCut_0 : List xO := [(.aload_n 0, 0, 0), (.iload_n 1, 0, 0)]
def oX4_isCut_5 : List xO := [(.istore_n 2, 0, 0), (.iconst 0, 0, 0), (.istore_n 3, 0, 0)]
def oX4_isCut_8 : List xO := [(.iload_n 3, 0, 0), (.aload_n 0, 0, 0), (.getfield 44, 4, 1), (.if_icmp .ge 41, 54, 0), (.iload_n 2, 0, 0), (.ifCond .le 37, 54, 0), (.iload_n 1, 0, 0), (.aload_n 0, 0, 0), (.getfield 9, 4, 5), (.iload_n 3, 0, 0), (.iaload, 0, 0), (.aload_n 0, 0, 0), (.getfield 15, 4, 6), (.iload_n 3, 0, 0), (.iaload, 0, 0)]
def oX4_isCut_36 : List xO := [(.ifCond .eq 12, 48, 0), (.iload_n 2, 0, 0), (.aload_n 0, 0, 0), (.getfield 18, 4, 7), (.iload_n 3, 0, 0), (.iaload, 0, 0), (.isub, 0, 0), (.istore_n 2, 0, 0)]
def oX4_isCut_48 : List xO := [(.iinc 3 1, 0, 0), (.goto (-43), 8, 0)]
def oX4_isCut_54 : List xO := [(.iload_n 2, 0, 0), (.ifCond .le 7, 62, 0), (.iconst 1, 0, 0), (.goto 4, 63, 0)]
def oX4_isCut_62 : List xO := [(.iconst 0, 0, 0)]
def oX4_isCut_63 : List xO := [(.ireturn, 0, 0)]
def AX4_isCut : List (Nat × List xO) := [(0, oX4_isCut_0), (5, oX4_isCut_5), (8, oX4_isCut_8), (36, oX4_isCut_36), (48, oX4_isCut_48), (54, oX4_isCut_54), (62, oX4_isCut_62), (63, oX4_isCut_63)]
theorem aX4_isCut : xTok tX4_isCut AX4_isCut = true := by decide +kernel
theorem rX4_isCut : tX4_isCut.2.2.2.2 = (some .boolean) := rfl
theorem cX4_isCut_2 {l : Launch} {d mc ms : Nat} {Q : xP} {kc ks n : Nat} {L : xL} {rest : List Value} {ws : xW} {v0 : Value} {b : Nat} {vs : List Value} (hw : ws b = some (4, .inr (.inr (.inr vs)))) {dc cc cs : Nat} {Q' : xP} (hd : dc + 1 ≤ d) (hkc : cc ≤ kc) (hks : cs ≤ ks) (hr : (rest.map fun v => v.category).sum ≤ 8) (hM : xM l tX4_demandOutOf dc cc cs [.ref b, v0] n ws Q') (k : ∀ r n' ws', Q' r n' ws' → xX l tX4_isCut d mc ms Q (kc - cc) (ks - cs) 5 L (r.toList ++ rest) n' ws') : xX l tX4_isCut d mc ms Q kc ks 2 L (v0 :: .ref b :: rest) n ws := xcallV (t := tX4_isCut) (As := [v0]) rfl mX4_demandOutOf k4_56 (by decide +kernel) rfl rfl hw (by decide) hr hd hkc hks hM k
theorem cX4_isCut_33 {l : Launch} {d mc ms : Nat} {Q : xP} {kc ks n : Nat} {L : xL} {rest : List Value} {ws : xW} {v0 v1 v2 : Value} {dc cc cs : Nat} {Q' : xP} (hd : dc + 1 ≤ d) (hkc : cc ≤ kc) (hks : cs ≤ ks) (hr : (rest.map fun v => v.category).sum ≤ 8) (hM : xM l tX4_leadsOut dc cc cs [v0, v1, v2] n ws Q') (k : ∀ r n' ws', Q' r n' ws' → xX l tX4_isCut d mc ms Q (kc - cc) (ks - cs) 36 L (r.toList ++ rest) n' ws') : xX l tX4_isCut d mc ms Q kc ks 33 L (v2 :: v1 :: v0 :: rest) n ws := xcallS (t := tX4_isCut) (As := [v0, v1, v2]) rfl mX4_leadsOut k4_60 (by decide +kernel) rfl rfl hr hd hkc hks hM k
def oX4_demandOutOf_0 : List xO := [(.iconst 0, 0, 0), (.istore_n 2, 0, 0), (.iconst 0, 0, 0), (.istore_n 3, 0, 0)]
def oX4_demandOutOf_4 : List xO := [(.iload_n 3, 0, 0), (.aload_n 0, 0, 0), (.getfield 47, 4, 2), (.if_icmp .ge 37, 46, 0), (.iload_n 1, 0, 0), (.aload_n 0, 0, 0), (.getfield 24, 4, 9), (.iload_n 3, 0, 0), (.iaload, 0, 0), (.aload_n 0, 0, 0), (.getfield 27, 4, 10), (.iload_n 3, 0, 0), (.iaload, 0, 0)]
def oX4_demandOutOf_28 : List xO := [(.ifCond .eq 12, 40, 0), (.iload_n 2, 0, 0), (.aload_n 0, 0, 0), (.getfield 30, 4, 11), (.iload_n 3, 0, 0), (.iaload, 0, 0), (.iadd, 0, 0), (.istore_n 2, 0, 0)]
def oX4_demandOutOf_40 : List xO := [(.iinc 3 1, 0, 0), (.goto (-39), 4, 0)]
def oX4_demandOutOf_46 : List xO := [(.iload_n 2, 0, 0), (.ireturn, 0, 0)]
def AX4_demandOutOf : List (Nat × List xO) := [(0, oX4_demandOutOf_0), (4, oX4_demandOutOf_4), (28, oX4_demandOutOf_28), (40, oX4_demandOutOf_40), (46, oX4_demandOutOf_46)]
theorem aX4_demandOutOf : xTok tX4_demandOutOf AX4_demandOutOf = true := by decide +kernel
theorem rX4_demandOutOf : tX4_demandOutOf.2.2.2.2 = (some .int) := rfl
theorem cX4_demandOutOf_25 {l : Launch} {d mc ms : Nat} {Q : xP} {kc ks n : Nat} {L : xL} {rest : List Value} {ws : xW} {v0 v1 v2 : Value} {dc cc cs : Nat} {Q' : xP} (hd : dc + 1 ≤ d) (hkc : cc ≤ kc) (hks : cs ≤ ks) (hr : (rest.map fun v => v.category).sum ≤ 8) (hM : xM l tX4_leadsOut dc cc cs [v0, v1, v2] n ws Q') (k : ∀ r n' ws', Q' r n' ws' → xX l tX4_demandOutOf d mc ms Q (kc - cc) (ks - cs) 28 L (r.toList ++ rest) n' ws') : xX l tX4_demandOutOf d mc ms Q kc ks 25 L (v2 :: v1 :: v0 :: rest) n ws := xcallS (t := tX4_demandOutOf) (As := [v0, v1, v2]) rfl mX4_leadsOut k4_60 (by decide +kernel) rfl rfl hr hd hkc hks hM k
def oX4_leadsOut_0 : List xO := [(.iload_n 0, 0, 0), (.iload_n 1, 0, 0), (.ishr, 0, 0), (.iconst 1, 0, 0), (.iand, 0, 0), (.iconst 1, 0, 0), (.if_icmp .ne 15, 21, 0), (.iload_n 0, 0, 0), (.iload_n 2, 0, 0), (.ishr, 0, 0), (.iconst 1, 0, 0), (.iand, 0, 0), (.ifCond .ne 7, 21, 0), (.iconst 1, 0, 0), (.goto 4, 22, 0)]
def oX4_leadsOut_21 : List xO := [(.iconst 0, 0, 0)]
def oX4_leadsOut_22 : List xO := [(.ireturn, 0, 0)]
def AX4_leadsOut : List (Nat × List xO) := [(0, oX4_leadsOut_0), (21, oX4_leadsOut_21), (22, oX4_leadsOut_22)]
theorem aX4_leadsOut : xTok tX4_leadsOut AX4_leadsOut = true := by decide +kernel
theorem rX4_leadsOut : tX4_leadsOut.2.2.2.2 = (some .boolean) := rfl
def oX5_init_0 : List xO := [(.aload_n 0, 0, 0)]
def oX5_init_4 : List xO := [(.aload_n 0, 0, 0), (.bipush 6, 0, 0), (.newarray .int, 0, 0), (.putfield 9, 5, 0), (.aload_n 0, 0, 0), (.bipush 6, 0, 0), (.newarray .int, 0, 0), (.putfield 15, 5, 3), (.aload_n 0, 0, 0), (.bipush 24, 0, 0), (.newarray .int, 0, 0), (.putfield 18, 5, 4), (.aload_n 0, 0, 0), (.bipush 7, 0, 0), (.newarray .int, 0, 0), (.putfield 21, 5, 5), (.aload_n 0, 0, 0), (.new 24, 3, 0), (.dup, 0, 0)]
def oX5_init_44 : List xO := [(.putfield 27, 5, 6), (.return_, 0, 0)]
def AX5_init : List (Nat × List xO) := [(0, oX5_init_0), (4, oX5_init_4), (44, oX5_init_44)]
theorem aX5_init : xTok tX5_init AX5_init = true := by decide +kernel
theorem rX5_init : tX5_init.2.2.2.2 = none := rfl
theorem cX5_init_1 {l : Launch} {d mc ms : Nat} {Q : xP} {kc ks n : Nat} {L : xL} {rest : List Value} {ws : xW} {b : Nat} (hd : 1 ≤ d) (hr : (rest.map fun v => v.category).sum ≤ 8) (k : xX l tX5_init d mc ms Q kc ks 4 L rest n ws) : xX l tX5_init d mc ms Q kc ks 1 L (.ref b :: rest) n ws := xcallO (t := tX5_init) rfl k5_3 (by decide +kernel) hd hr k
theorem cX5_init_41 {l : Launch} {d mc ms : Nat} {Q : xP} {kc ks n : Nat} {L : xL} {rest : List Value} {ws : xW} {b : Nat} {dc cc cs : Nat} {Q' : xP} (hd : dc + 1 ≤ d) (hkc : cc ≤ kc) (hks : cs ≤ ks) (hr : (rest.map fun v => v.category).sum ≤ 8) (hM : xM l tX3_init dc cc cs [.ref b] n ws Q') (k : ∀ r n' ws', Q' r n' ws' → xX l tX5_init d mc ms Q (kc - cc) (ks - cs) 44 L (r.toList ++ rest) n' ws') : xX l tX5_init d mc ms Q kc ks 41 L (.ref b :: rest) n ws := xcallIN (t := tX5_init) (As := []) rfl mX3_init rfl rfl k5_26 nX3_init (by decide +kernel) rfl rfl hr hd hkc hks hM k
def oX5_findBest_0 : List xO := [(.aload_n 0, 0, 0), (.aload_n 1, 0, 0), (.aload_n 2, 0, 0)]
def oX5_findBest_6 : List xO := [(.aload_n 0, 0, 0), (.iconst (-1), 0, 0), (.putfield 35, 5, 1), (.aload_n 0, 0, 0), (.iconst 0, 0, 0), (.putfield 39, 5, 2), (.aload_n 0, 0, 0), (.aload_n 1, 0, 0), (.aload_n 2, 0, 0), (.iconst 0, 0, 0), (.iconst 0, 0, 0), (.iconst 0, 0, 0)]
def oX5_findBest_25 : List xO := [(.return_, 0, 0)]
def AX5_findBest : List (Nat × List xO) := [(0, oX5_findBest_0), (6, oX5_findBest_6), (25, oX5_findBest_25)]
theorem aX5_findBest : xTok tX5_findBest AX5_findBest = true := by decide +kernel
theorem rX5_findBest : tX5_findBest.2.2.2.2 = none := rfl
theorem cX5_findBest_3 {l : Launch} {d mc ms : Nat} {Q : xP} {kc ks n : Nat} {L : xL} {rest : List Value} {ws : xW} {v0 v1 : Value} {b : Nat} {vs : List Value} (hw : ws b = some (5, .inr (.inr (.inr vs)))) {dc cc cs : Nat} {Q' : xP} (hd : dc + 1 ≤ d) (hkc : cc ≤ kc) (hks : cs ≤ ks) (hr : (rest.map fun v => v.category).sum ≤ 8) (hM : xM l tX5_prepare dc cc cs [.ref b, v0, v1] n ws Q') (k : ∀ r n' ws', Q' r n' ws' → xX l tX5_findBest d mc ms Q (kc - cc) (ks - cs) 6 L (r.toList ++ rest) n' ws') : xX l tX5_findBest d mc ms Q kc ks 3 L (v1 :: v0 :: .ref b :: rest) n ws := xcallV (t := tX5_findBest) (As := [v0, v1]) rfl mX5_prepare k5_31 (by decide +kernel) rfl rfl hw (by decide) hr hd hkc hks hM k
theorem cX5_findBest_22 {l : Launch} {d mc ms : Nat} {Q : xP} {kc ks n : Nat} {L : xL} {rest : List Value} {ws : xW} {v0 v1 v2 v3 v4 : Value} {b : Nat} {vs : List Value} (hw : ws b = some (5, .inr (.inr (.inr vs)))) {dc cc cs : Nat} {Q' : xP} (hd : dc + 1 ≤ d) (hkc : cc ≤ kc) (hks : cs ≤ ks) (hr : (rest.map fun v => v.category).sum ≤ 8) (hM : xM l tX5_choose dc cc cs [.ref b, v0, v1, v2, v3, v4] n ws Q') (k : ∀ r n' ws', Q' r n' ws' → xX l tX5_findBest d mc ms Q (kc - cc) (ks - cs) 25 L (r.toList ++ rest) n' ws') : xX l tX5_findBest d mc ms Q kc ks 22 L (v4 :: v3 :: v2 :: v1 :: v0 :: .ref b :: rest) n ws := xcallV (t := tX5_findBest) (As := [v0, v1, v2, v3, v4]) rfl mX5_choose k5_42 (by decide +kernel) rfl rfl hw (by decide) hr hd hkc hks hM k
def oX5_mostWorthWithWider_0 : List xO := [(.aload_n 0, 0, 0), (.aload_n 1, 0, 0), (.aload_n 2, 0, 0)]
def oX5_mostWorthWithWider_6 : List xO := [(.aload_n 0, 0, 0), (.getfield 18, 5, 4), (.iload_n 3, 0, 0), (.dup2, 0, 0), (.iaload, 0, 0), (.iload 4, 0, 0), (.iadd, 0, 0), (.iastore, 0, 0), (.aload_n 0, 0, 0), (.iload 5, 0, 0), (.putfield 35, 5, 1), (.aload_n 0, 0, 0), (.iconst 0, 0, 0), (.putfield 39, 5, 2), (.aload_n 0, 0, 0), (.aload_n 1, 0, 0), (.aload_n 2, 0, 0), (.iconst 0, 0, 0), (.iconst 0, 0, 0), (.iconst 0, 0, 0)]
def oX5_mostWorthWithWider_37 : List xO := [(.aload_n 0, 0, 0), (.getfield 35, 5, 1), (.ireturn, 0, 0)]
def AX5_mostWorthWithWider : List (Nat × List xO) := [(0, oX5_mostWorthWithWider_0), (6, oX5_mostWorthWithWider_6), (37, oX5_mostWorthWithWider_37)]
theorem aX5_mostWorthWithWider : xTok tX5_mostWorthWithWider AX5_mostWorthWithWider = true := by decide +kernel
theorem rX5_mostWorthWithWider : tX5_mostWorthWithWider.2.2.2.2 = (some .int) := rfl
theorem cX5_mostWorthWithWider_3 {l : Launch} {d mc ms : Nat} {Q : xP} {kc ks n : Nat} {L : xL} {rest : List Value} {ws : xW} {v0 v1 : Value} {b : Nat} {vs : List Value} (hw : ws b = some (5, .inr (.inr (.inr vs)))) {dc cc cs : Nat} {Q' : xP} (hd : dc + 1 ≤ d) (hkc : cc ≤ kc) (hks : cs ≤ ks) (hr : (rest.map fun v => v.category).sum ≤ 8) (hM : xM l tX5_prepare dc cc cs [.ref b, v0, v1] n ws Q') (k : ∀ r n' ws', Q' r n' ws' → xX l tX5_mostWorthWithWider d mc ms Q (kc - cc) (ks - cs) 6 L (r.toList ++ rest) n' ws') : xX l tX5_mostWorthWithWider d mc ms Q kc ks 3 L (v1 :: v0 :: .ref b :: rest) n ws := xcallV (t := tX5_mostWorthWithWider) (As := [v0, v1]) rfl mX5_prepare k5_31 (by decide +kernel) rfl rfl hw (by decide) hr hd hkc hks hM k
theorem cX5_mostWorthWithWider_34 {l : Launch} {d mc ms : Nat} {Q : xP} {kc ks n : Nat} {L : xL} {rest : List Value} {ws : xW} {v0 v1 v2 v3 v4 : Value} {b : Nat} {vs : List Value} (hw : ws b = some (5, .inr (.inr (.inr vs)))) {dc cc cs : Nat} {Q' : xP} (hd : dc + 1 ≤ d) (hkc : cc ≤ kc) (hks : cs ≤ ks) (hr : (rest.map fun v => v.category).sum ≤ 8) (hM : xM l tX5_choose dc cc cs [.ref b, v0, v1, v2, v3, v4] n ws Q') (k : ∀ r n' ws', Q' r n' ws' → xX l tX5_mostWorthWithWider d mc ms Q (kc - cc) (ks - cs) 37 L (r.toList ++ rest) n' ws') : xX l tX5_mostWorthWithWider d mc ms Q kc ks 34 L (v4 :: v3 :: v2 :: v1 :: v0 :: .ref b :: rest) n ws := xcallV (t := tX5_mostWorthWithWider) (As := [v0, v1, v2, v3, v4]) rfl mX5_choose k5_42 (by decide +kernel) rfl rfl hw (by decide) hr hd hkc hks hM k
def oX5_prepare_0 : List xO := [(.aload_n 0, 0, 0), (.getfield 27, 5, 6)]
def oX5_prepare_7 : List xO := [(.iconst 0, 0, 0), (.istore_n 3, 0, 0)]
def oX5_prepare_9 : List xO := [(.iload_n 3, 0, 0), (.aload_n 1, 0, 0), (.getfield 49, 4, 1), (.if_icmp .ge 21, 35, 0), (.aload_n 0, 0, 0), (.getfield 18, 5, 4), (.iload_n 3, 0, 0), (.aload_n 1, 0, 0), (.getfield 54, 4, 7), (.iload_n 3, 0, 0), (.iaload, 0, 0), (.iastore, 0, 0), (.iinc 3 1, 0, 0), (.goto (-23), 9, 0)]
def oX5_prepare_35 : List xO := [(.aload_n 0, 0, 0), (.getfield 21, 5, 5), (.aload_n 1, 0, 0), (.getfield 57, 4, 2), (.iconst 0, 0, 0), (.iastore, 0, 0), (.aload_n 1, 0, 0), (.getfield 57, 4, 2), (.iconst 1, 0, 0), (.isub, 0, 0), (.istore_n 3, 0, 0)]
def oX5_prepare_52 : List xO := [(.iload_n 3, 0, 0), (.ifCond .lt 46, 99, 0), (.aload_n 0, 0, 0), (.getfield 21, 5, 5), (.iload_n 3, 0, 0), (.aload_n 0, 0, 0), (.getfield 21, 5, 5), (.iload_n 3, 0, 0), (.iconst 1, 0, 0), (.iadd, 0, 0), (.iaload, 0, 0), (.aload_n 2, 0, 0), (.getfield 60, 8, 0), (.iload_n 3, 0, 0), (.aaload, 0, 0), (.getfield 66, 7, 0), (.ifCond .le 12, 90, 0), (.aload_n 1, 0, 0), (.getfield 71, 4, 12), (.iload_n 3, 0, 0), (.iaload, 0, 0), (.goto 4, 91, 0)]
def oX5_prepare_90 : List xO := [(.iconst 0, 0, 0)]
def oX5_prepare_91 : List xO := [(.iadd, 0, 0), (.iastore, 0, 0), (.iinc 3 (-1), 0, 0), (.goto (-44), 52, 0)]
def oX5_prepare_99 : List xO := [(.return_, 0, 0)]
def AX5_prepare : List (Nat × List xO) := [(0, oX5_prepare_0), (7, oX5_prepare_7), (9, oX5_prepare_9), (35, oX5_prepare_35), (52, oX5_prepare_52), (90, oX5_prepare_90), (91, oX5_prepare_91), (99, oX5_prepare_99)]
theorem aX5_prepare : xTok tX5_prepare AX5_prepare = true := by decide +kernel
theorem rX5_prepare : tX5_prepare.2.2.2.2 = none := rfl
theorem cX5_prepare_4 {l : Launch} {d mc ms : Nat} {Q : xP} {kc ks n : Nat} {L : xL} {rest : List Value} {ws : xW} {b : Nat} {vs : List Value} (hw : ws b = some (3, .inr (.inr (.inr vs)))) {dc cc cs : Nat} {Q' : xP} (hd : dc + 1 ≤ d) (hkc : cc ≤ kc) (hks : cs ≤ ks) (hr : (rest.map fun v => v.category).sum ≤ 8) (hM : xM l tX3_clear dc cc cs [.ref b] n ws Q') (k : ∀ r n' ws', Q' r n' ws' → xX l tX5_prepare d mc ms Q (kc - cc) (ks - cs) 7 L (r.toList ++ rest) n' ws') : xX l tX5_prepare d mc ms Q kc ks 4 L (.ref b :: rest) n ws := xcallV (t := tX5_prepare) (As := []) rfl mX3_clear k5_46 (by decide +kernel) rfl rfl hw (by decide) hr hd hkc hks hM k
def oX5_choose_0 : List xO := [(.aload_n 0, 0, 0), (.iload 4, 0, 0), (.aload_n 0, 0, 0), (.getfield 21, 5, 5), (.iload_n 3, 0, 0), (.iaload, 0, 0), (.iadd, 0, 0), (.iload 5, 0, 0)]
def oX5_choose_15 : List xO := [(.ifCond .ne 4, 19, 0), (.return_, 0, 0)]
def oX5_choose_19 : List xO := [(.iload_n 3, 0, 0), (.aload_n 1, 0, 0), (.getfield 57, 4, 2), (.if_icmp .lt 16, 40, 0), (.aload_n 0, 0, 0), (.aload_n 1, 0, 0), (.getfield 57, 4, 2), (.iload 4, 0, 0), (.iload 5, 0, 0)]
def oX5_choose_39 : List xO := [(.return_, 0, 0)]
def oX5_choose_40 : List xO := [(.aload_n 2, 0, 0), (.getfield 60, 8, 0), (.iload_n 3, 0, 0), (.aaload, 0, 0), (.astore 6, 0, 0), (.iconst 0, 0, 0), (.istore 7, 0, 0)]
def oX5_choose_51 : List xO := [(.iload 7, 0, 0), (.aload 6, 0, 0), (.getfield 66, 7, 0), (.if_icmp .ge 50, 108, 0), (.aload_n 0, 0, 0), (.getfield 27, 5, 6), (.aload 6, 0, 0), (.getfield 82, 7, 1), (.iload 7, 0, 0), (.aaload, 0, 0), (.aload_n 1, 0, 0), (.getfield 86, 4, 11), (.iload_n 3, 0, 0), (.iaload, 0, 0), (.aload_n 0, 0, 0), (.getfield 18, 5, 4)]
def oX5_choose_86 : List xO := [(.ifCond .eq 16, 102, 0), (.aload_n 0, 0, 0), (.aload_n 1, 0, 0), (.aload_n 2, 0, 0), (.iload_n 3, 0, 0), (.iload 7, 0, 0), (.iload 4, 0, 0), (.iload 5, 0, 0)]
def oX5_choose_102 : List xO := [(.iinc 7 1, 0, 0), (.goto (-54), 51, 0)]
def oX5_choose_108 : List xO := [(.aload_n 0, 0, 0), (.aload_n 1, 0, 0), (.aload_n 2, 0, 0), (.iload_n 3, 0, 0), (.iload 4, 0, 0), (.iload 5, 0, 0)]
def oX5_choose_119 : List xO := [(.return_, 0, 0)]
def AX5_choose : List (Nat × List xO) := [(0, oX5_choose_0), (15, oX5_choose_15), (19, oX5_choose_19), (39, oX5_choose_39), (40, oX5_choose_40), (51, oX5_choose_51), (86, oX5_choose_86), (102, oX5_choose_102), (108, oX5_choose_108), (119, oX5_choose_119)]
theorem aX5_choose : xTok tX5_choose AX5_choose = true := by decide +kernel
theorem rX5_choose : tX5_choose.2.2.2.2 = none := rfl
theorem cX5_choose_12 {l : Launch} {d mc ms : Nat} {Q : xP} {kc ks n : Nat} {L : xL} {rest : List Value} {ws : xW} {v0 v1 : Value} {b : Nat} {vs : List Value} (hw : ws b = some (5, .inr (.inr (.inr vs)))) {dc cc cs : Nat} {Q' : xP} (hd : dc + 1 ≤ d) (hkc : cc ≤ kc) (hks : cs ≤ ks) (hr : (rest.map fun v => v.category).sum ≤ 8) (hM : xM l tX5_mayBeBetter dc cc cs [.ref b, v0, v1] n ws Q') (k : ∀ r n' ws', Q' r n' ws' → xX l tX5_choose d mc ms Q (kc - cc) (ks - cs) 15 L (r.toList ++ rest) n' ws') : xX l tX5_choose d mc ms Q kc ks 12 L (v1 :: v0 :: .ref b :: rest) n ws := xcallV (t := tX5_choose) (As := [v0, v1]) rfl mX5_mayBeBetter k5_74 (by decide +kernel) rfl rfl hw (by decide) hr hd hkc hks hM k
theorem cX5_choose_36 {l : Launch} {d mc ms : Nat} {Q : xP} {kc ks n : Nat} {L : xL} {rest : List Value} {ws : xW} {v0 v1 v2 : Value} {b : Nat} {vs : List Value} (hw : ws b = some (5, .inr (.inr (.inr vs)))) {dc cc cs : Nat} {Q' : xP} (hd : dc + 1 ≤ d) (hkc : cc ≤ kc) (hks : cs ≤ ks) (hr : (rest.map fun v => v.category).sum ≤ 8) (hM : xM l tX5_keep dc cc cs [.ref b, v0, v1, v2] n ws Q') (k : ∀ r n' ws', Q' r n' ws' → xX l tX5_choose d mc ms Q (kc - cc) (ks - cs) 39 L (r.toList ++ rest) n' ws') : xX l tX5_choose d mc ms Q kc ks 36 L (v2 :: v1 :: v0 :: .ref b :: rest) n ws := xcallV (t := tX5_choose) (As := [v0, v1, v2]) rfl mX5_keep k5_78 (by decide +kernel) rfl rfl hw (by decide) hr hd hkc hks hM k
theorem cX5_choose_83 {l : Launch} {d mc ms : Nat} {Q : xP} {kc ks n : Nat} {L : xL} {rest : List Value} {ws : xW} {v0 v1 v2 : Value} {b : Nat} {vs : List Value} (hw : ws b = some (3, .inr (.inr (.inr vs)))) {dc cc cs : Nat} {Q' : xP} (hd : dc + 1 ≤ d) (hkc : cc ≤ kc) (hks : cs ≤ ks) (hr : (rest.map fun v => v.category).sum ≤ 8) (hM : xM l tX3_leavesRoomFor dc cc cs [.ref b, v0, v1, v2] n ws Q') (k : ∀ r n' ws', Q' r n' ws' → xX l tX5_choose d mc ms Q (kc - cc) (ks - cs) 86 L (r.toList ++ rest) n' ws') : xX l tX5_choose d mc ms Q kc ks 83 L (v2 :: v1 :: v0 :: .ref b :: rest) n ws := xcallV (t := tX5_choose) (As := [v0, v1, v2]) rfl mX3_leavesRoomFor k5_89 (by decide +kernel) rfl rfl hw (by decide) hr hd hkc hks hM k
theorem cX5_choose_99 {l : Launch} {d mc ms : Nat} {Q : xP} {kc ks n : Nat} {L : xL} {rest : List Value} {ws : xW} {v0 v1 v2 v3 v4 v5 : Value} {b : Nat} {vs : List Value} (hw : ws b = some (5, .inr (.inr (.inr vs)))) {dc cc cs : Nat} {Q' : xP} (hd : dc + 1 ≤ d) (hkc : cc ≤ kc) (hks : cs ≤ ks) (hr : (rest.map fun v => v.category).sum ≤ 8) (hM : xM l tX5_serve dc cc cs [.ref b, v0, v1, v2, v3, v4, v5] n ws Q') (k : ∀ r n' ws', Q' r n' ws' → xX l tX5_choose d mc ms Q (kc - cc) (ks - cs) 102 L (r.toList ++ rest) n' ws') : xX l tX5_choose d mc ms Q kc ks 99 L (v5 :: v4 :: v3 :: v2 :: v1 :: v0 :: .ref b :: rest) n ws := xcallV (t := tX5_choose) (As := [v0, v1, v2, v3, v4, v5]) rfl mX5_serve k5_93 (by decide +kernel) rfl rfl hw (by decide) hr hd hkc hks hM k
theorem cX5_choose_116 {l : Launch} {d mc ms : Nat} {Q : xP} {kc ks n : Nat} {L : xL} {rest : List Value} {ws : xW} {v0 v1 v2 v3 v4 : Value} {b : Nat} {vs : List Value} (hw : ws b = some (5, .inr (.inr (.inr vs)))) {dc cc cs : Nat} {Q' : xP} (hd : dc + 1 ≤ d) (hkc : cc ≤ kc) (hks : cs ≤ ks) (hr : (rest.map fun v => v.category).sum ≤ 8) (hM : xM l tX5_leaveOut dc cc cs [.ref b, v0, v1, v2, v3, v4] n ws Q') (k : ∀ r n' ws', Q' r n' ws' → xX l tX5_choose d mc ms Q (kc - cc) (ks - cs) 119 L (r.toList ++ rest) n' ws') : xX l tX5_choose d mc ms Q kc ks 116 L (v4 :: v3 :: v2 :: v1 :: v0 :: .ref b :: rest) n ws := xcallV (t := tX5_choose) (As := [v0, v1, v2, v3, v4]) rfl mX5_leaveOut k5_97 (by decide +kernel) rfl rfl hw (by decide) hr hd hkc hks hM k
def oX5_serve_0 : List xO := [(.aload_n 2, 0, 0), (.getfield 60, 8, 0), (.iload_n 3, 0, 0), (.aaload, 0, 0), (.getfield 82, 7, 1), (.iload 4, 0, 0), (.aaload, 0, 0), (.astore 7, 0, 0), (.aload_n 1, 0, 0), (.getfield 86, 4, 11), (.iload_n 3, 0, 0), (.iaload, 0, 0), (.istore 8, 0, 0), (.aload_n 0, 0, 0), (.getfield 15, 5, 3), (.iload_n 3, 0, 0), (.iload 4, 0, 0), (.iastore, 0, 0), (.aload_n 0, 0, 0), (.getfield 27, 5, 6), (.aload 7, 0, 0), (.iload 8, 0, 0)]
def oX5_serve_41 : List xO := [(.aload_n 0, 0, 0), (.aload_n 1, 0, 0), (.aload_n 2, 0, 0), (.iload_n 3, 0, 0), (.iconst 1, 0, 0), (.iadd, 0, 0), (.iload 5, 0, 0), (.aload_n 1, 0, 0), (.getfield 71, 4, 12), (.iload_n 3, 0, 0), (.iaload, 0, 0), (.iadd, 0, 0), (.iload 6, 0, 0), (.iload 8, 0, 0), (.aload 7, 0, 0), (.getfield 104, 6, 1), (.imul, 0, 0), (.iadd, 0, 0)]
def oX5_serve_70 : List xO := [(.aload_n 0, 0, 0), (.getfield 27, 5, 6), (.aload 7, 0, 0), (.iload 8, 0, 0), (.ineg, 0, 0)]
def oX5_serve_82 : List xO := [(.return_, 0, 0)]
def AX5_serve : List (Nat × List xO) := [(0, oX5_serve_0), (41, oX5_serve_41), (70, oX5_serve_70), (82, oX5_serve_82)]
theorem aX5_serve : xTok tX5_serve AX5_serve = true := by decide +kernel
theorem rX5_serve : tX5_serve.2.2.2.2 = none := rfl
theorem cX5_serve_38 {l : Launch} {d mc ms : Nat} {Q : xP} {kc ks n : Nat} {L : xL} {rest : List Value} {ws : xW} {v0 v1 : Value} {b : Nat} {vs : List Value} (hw : ws b = some (3, .inr (.inr (.inr vs)))) {dc cc cs : Nat} {Q' : xP} (hd : dc + 1 ≤ d) (hkc : cc ≤ kc) (hks : cs ≤ ks) (hr : (rest.map fun v => v.category).sum ≤ 8) (hM : xM l tX3_add dc cc cs [.ref b, v0, v1] n ws Q') (k : ∀ r n' ws', Q' r n' ws' → xX l tX5_serve d mc ms Q (kc - cc) (ks - cs) 41 L (r.toList ++ rest) n' ws') : xX l tX5_serve d mc ms Q kc ks 38 L (v1 :: v0 :: .ref b :: rest) n ws := xcallV (t := tX5_serve) (As := [v0, v1]) rfl mX3_add k5_100 (by decide +kernel) rfl rfl hw (by decide) hr hd hkc hks hM k
theorem cX5_serve_67 {l : Launch} {d mc ms : Nat} {Q : xP} {kc ks n : Nat} {L : xL} {rest : List Value} {ws : xW} {v0 v1 v2 v3 v4 : Value} {b : Nat} {vs : List Value} (hw : ws b = some (5, .inr (.inr (.inr vs)))) {dc cc cs : Nat} {Q' : xP} (hd : dc + 1 ≤ d) (hkc : cc ≤ kc) (hks : cs ≤ ks) (hr : (rest.map fun v => v.category).sum ≤ 8) (hM : xM l tX5_choose dc cc cs [.ref b, v0, v1, v2, v3, v4] n ws Q') (k : ∀ r n' ws', Q' r n' ws' → xX l tX5_serve d mc ms Q (kc - cc) (ks - cs) 70 L (r.toList ++ rest) n' ws') : xX l tX5_serve d mc ms Q kc ks 67 L (v4 :: v3 :: v2 :: v1 :: v0 :: .ref b :: rest) n ws := xcallV (t := tX5_serve) (As := [v0, v1, v2, v3, v4]) rfl mX5_choose k5_42 (by decide +kernel) rfl rfl hw (by decide) hr hd hkc hks hM k
theorem cX5_serve_79 {l : Launch} {d mc ms : Nat} {Q : xP} {kc ks n : Nat} {L : xL} {rest : List Value} {ws : xW} {v0 v1 : Value} {b : Nat} {vs : List Value} (hw : ws b = some (3, .inr (.inr (.inr vs)))) {dc cc cs : Nat} {Q' : xP} (hd : dc + 1 ≤ d) (hkc : cc ≤ kc) (hks : cs ≤ ks) (hr : (rest.map fun v => v.category).sum ≤ 8) (hM : xM l tX3_add dc cc cs [.ref b, v0, v1] n ws Q') (k : ∀ r n' ws', Q' r n' ws' → xX l tX5_serve d mc ms Q (kc - cc) (ks - cs) 82 L (r.toList ++ rest) n' ws') : xX l tX5_serve d mc ms Q kc ks 79 L (v1 :: v0 :: .ref b :: rest) n ws := xcallV (t := tX5_serve) (As := [v0, v1]) rfl mX3_add k5_100 (by decide +kernel) rfl rfl hw (by decide) hr hd hkc hks hM k
def oX5_leaveOut_0 : List xO := [(.aload_n 0, 0, 0), (.getfield 15, 5, 3), (.iload_n 3, 0, 0), (.iconst (-1), 0, 0), (.iastore, 0, 0), (.aload_n 0, 0, 0), (.aload_n 1, 0, 0), (.aload_n 2, 0, 0), (.iload_n 3, 0, 0), (.iconst 1, 0, 0), (.iadd, 0, 0), (.iload 4, 0, 0), (.iload 5, 0, 0)]
def oX5_leaveOut_20 : List xO := [(.return_, 0, 0)]
def AX5_leaveOut : List (Nat × List xO) := [(0, oX5_leaveOut_0), (20, oX5_leaveOut_20)]
theorem aX5_leaveOut : xTok tX5_leaveOut AX5_leaveOut = true := by decide +kernel
theorem rX5_leaveOut : tX5_leaveOut.2.2.2.2 = none := rfl
theorem cX5_leaveOut_17 {l : Launch} {d mc ms : Nat} {Q : xP} {kc ks n : Nat} {L : xL} {rest : List Value} {ws : xW} {v0 v1 v2 v3 v4 : Value} {b : Nat} {vs : List Value} (hw : ws b = some (5, .inr (.inr (.inr vs)))) {dc cc cs : Nat} {Q' : xP} (hd : dc + 1 ≤ d) (hkc : cc ≤ kc) (hks : cs ≤ ks) (hr : (rest.map fun v => v.category).sum ≤ 8) (hM : xM l tX5_choose dc cc cs [.ref b, v0, v1, v2, v3, v4] n ws Q') (k : ∀ r n' ws', Q' r n' ws' → xX l tX5_leaveOut d mc ms Q (kc - cc) (ks - cs) 20 L (r.toList ++ rest) n' ws') : xX l tX5_leaveOut d mc ms Q kc ks 17 L (v4 :: v3 :: v2 :: v1 :: v0 :: .ref b :: rest) n ws := xcallV (t := tX5_leaveOut) (As := [v0, v1, v2, v3, v4]) rfl mX5_choose k5_42 (by decide +kernel) rfl rfl hw (by decide) hr hd hkc hks hM k
def oX5_mayBeBetter_0 : List xO := [(.iload_n 1, 0, 0), (.aload_n 0, 0, 0), (.getfield 35, 5, 1), (.if_icmp .gt 19, 24, 0), (.iload_n 1, 0, 0), (.aload_n 0, 0, 0), (.getfield 35, 5, 1), (.if_icmp .ne 15, 28, 0), (.iload_n 2, 0, 0), (.aload_n 0, 0, 0), (.getfield 39, 5, 2), (.if_icmp .ge 7, 28, 0)]
def oX5_mayBeBetter_24 : List xO := [(.iconst 1, 0, 0), (.goto 4, 29, 0)]
def oX5_mayBeBetter_28 : List xO := [(.iconst 0, 0, 0)]
def oX5_mayBeBetter_29 : List xO := [(.ireturn, 0, 0)]
def AX5_mayBeBetter : List (Nat × List xO) := [(0, oX5_mayBeBetter_0), (24, oX5_mayBeBetter_24), (28, oX5_mayBeBetter_28), (29, oX5_mayBeBetter_29)]
theorem aX5_mayBeBetter : xTok tX5_mayBeBetter AX5_mayBeBetter = true := by decide +kernel
theorem rX5_mayBeBetter : tX5_mayBeBetter.2.2.2.2 = (some .boolean) := rfl
def oX5_keep_0 : List xO := [(.iconst 0, 0, 0), (.istore 4, 0, 0)]
def oX5_keep_3 : List xO := [(.iload 4, 0, 0), (.iload_n 1, 0, 0), (.if_icmp .ge 23, 29, 0), (.aload_n 0, 0, 0), (.getfield 9, 5, 0), (.iload 4, 0, 0), (.aload_n 0, 0, 0), (.getfield 15, 5, 3), (.iload 4, 0, 0), (.iaload, 0, 0), (.iastore, 0, 0), (.iinc 4 1, 0, 0), (.goto (-23), 3, 0)]
def oX5_keep_29 : List xO := [(.aload_n 0, 0, 0), (.iload_n 2, 0, 0), (.putfield 35, 5, 1), (.aload_n 0, 0, 0), (.iload_n 3, 0, 0), (.putfield 39, 5, 2), (.return_, 0, 0)]
def AX5_keep : List (Nat × List xO) := [(0, oX5_keep_0), (3, oX5_keep_3), (29, oX5_keep_29)]
theorem aX5_keep : xTok tX5_keep AX5_keep = true := by decide +kernel
theorem rX5_keep : tX5_keep.2.2.2.2 = none := rfl
def oX6_init_0 : List xO := [(.aload_n 0, 0, 0)]
def oX6_init_4 : List xO := [(.aload_n 0, 0, 0), (.bipush 9, 0, 0), (.newarray .int, 0, 0), (.putfield 9, 6, 2), (.return_, 0, 0)]
def AX6_init : List (Nat × List xO) := [(0, oX6_init_0), (4, oX6_init_4)]
theorem aX6_init : xTok tX6_init AX6_init = true := by decide +kernel
theorem rX6_init : tX6_init.2.2.2.2 = none := rfl
theorem cX6_init_1 {l : Launch} {d mc ms : Nat} {Q : xP} {kc ks n : Nat} {L : xL} {rest : List Value} {ws : xW} {b : Nat} (hd : 1 ≤ d) (hr : (rest.map fun v => v.category).sum ≤ 8) (k : xX l tX6_init d mc ms Q kc ks 4 L rest n ws) : xX l tX6_init d mc ms Q kc ks 1 L (.ref b :: rest) n ws := xcallO (t := tX6_init) rfl k6_3 (by decide +kernel) hd hr k
def oX6_copyFrom_0 : List xO := [(.iconst 0, 0, 0), (.istore 4, 0, 0)]
def oX6_copyFrom_3 : List xO := [(.iload 4, 0, 0), (.iload_n 2, 0, 0), (.if_icmp .ge 20, 26, 0), (.aload_n 0, 0, 0), (.getfield 9, 6, 2), (.iload 4, 0, 0), (.aload_n 1, 0, 0), (.iload 4, 0, 0), (.iaload, 0, 0), (.iastore, 0, 0), (.iinc 4 1, 0, 0), (.goto (-20), 3, 0)]
def oX6_copyFrom_26 : List xO := [(.aload_n 0, 0, 0), (.iload_n 2, 0, 0), (.putfield 15, 6, 0), (.aload_n 0, 0, 0), (.iload_n 3, 0, 0), (.putfield 19, 6, 1), (.return_, 0, 0)]
def AX6_copyFrom : List (Nat × List xO) := [(0, oX6_copyFrom_0), (3, oX6_copyFrom_3), (26, oX6_copyFrom_26)]
theorem aX6_copyFrom : xTok tX6_copyFrom AX6_copyFrom = true := by decide +kernel
theorem rX6_copyFrom : tX6_copyFrom.2.2.2.2 = none := rfl
def oX6_uses_0 : List xO := [(.iconst 0, 0, 0), (.istore_n 2, 0, 0)]
def oX6_uses_2 : List xO := [(.iload_n 2, 0, 0), (.aload_n 0, 0, 0), (.getfield 15, 6, 0), (.if_icmp .ge 21, 28, 0), (.aload_n 0, 0, 0), (.getfield 9, 6, 2), (.iload_n 2, 0, 0), (.iaload, 0, 0), (.iload_n 1, 0, 0), (.if_icmp .ne 5, 22, 0), (.iconst 1, 0, 0), (.ireturn, 0, 0)]
def oX6_uses_22 : List xO := [(.iinc 2 1, 0, 0), (.goto (-23), 2, 0)]
def oX6_uses_28 : List xO := [(.iconst 0, 0, 0), (.ireturn, 0, 0)]
def AX6_uses : List (Nat × List xO) := [(0, oX6_uses_0), (2, oX6_uses_2), (22, oX6_uses_22), (28, oX6_uses_28)]
theorem aX6_uses : xTok tX6_uses AX6_uses = true := by decide +kernel
theorem rX6_uses : tX6_uses.2.2.2.2 = (some .boolean) := rfl
def oX7_init_0 : List xO := [(.aload_n 0, 0, 0)]
def oX7_init_4 : List xO := [(.aload_n 0, 0, 0), (.iconst 5, 0, 0), (.anewarray 9, 3, 0), (.putfield 11, 7, 1), (.iconst 0, 0, 0), (.istore_n 1, 0, 0)]
def oX7_init_14 : List xO := [(.iload_n 1, 0, 0), (.iconst 5, 0, 0), (.if_icmp .ge 22, 38, 0), (.aload_n 0, 0, 0), (.getfield 11, 7, 1), (.iload_n 1, 0, 0), (.new 9, 6, 0), (.dup, 0, 0)]
def oX7_init_31 : List xO := [(.aastore, 0, 0), (.iinc 1 1, 0, 0), (.goto (-21), 14, 0)]
def oX7_init_38 : List xO := [(.return_, 0, 0)]
def AX7_init : List (Nat × List xO) := [(0, oX7_init_0), (4, oX7_init_4), (14, oX7_init_14), (31, oX7_init_31), (38, oX7_init_38)]
theorem aX7_init : xTok tX7_init AX7_init = true := by decide +kernel
theorem rX7_init : tX7_init.2.2.2.2 = none := rfl
theorem cX7_init_1 {l : Launch} {d mc ms : Nat} {Q : xP} {kc ks n : Nat} {L : xL} {rest : List Value} {ws : xW} {b : Nat} (hd : 1 ≤ d) (hr : (rest.map fun v => v.category).sum ≤ 8) (k : xX l tX7_init d mc ms Q kc ks 4 L rest n ws) : xX l tX7_init d mc ms Q kc ks 1 L (.ref b :: rest) n ws := xcallO (t := tX7_init) rfl k7_3 (by decide +kernel) hd hr k
theorem cX7_init_28 {l : Launch} {d mc ms : Nat} {Q : xP} {kc ks n : Nat} {L : xL} {rest : List Value} {ws : xW} {b : Nat} {dc cc cs : Nat} {Q' : xP} (hd : dc + 1 ≤ d) (hkc : cc ≤ kc) (hks : cs ≤ ks) (hr : (rest.map fun v => v.category).sum ≤ 8) (hM : xM l tX6_init dc cc cs [.ref b] n ws Q') (k : ∀ r n' ws', Q' r n' ws' → xX l tX7_init d mc ms Q (kc - cc) (ks - cs) 31 L (r.toList ++ rest) n' ws') : xX l tX7_init d mc ms Q kc ks 28 L (.ref b :: rest) n ws := xcallIN (t := tX7_init) (As := []) rfl mX6_init rfl rfl k7_17 nX6_init (by decide +kernel) rfl rfl hr hd hkc hks hM k
def oX7_has_0 : List xO := [(.iload_n 1, 0, 0), (.ifCond .lt 15, 16, 0), (.iload_n 1, 0, 0), (.aload_n 0, 0, 0), (.getfield 18, 7, 0), (.if_icmp .ge 7, 16, 0), (.iconst 1, 0, 0), (.goto 4, 17, 0)]
def oX7_has_16 : List xO := [(.iconst 0, 0, 0)]
def oX7_has_17 : List xO := [(.ireturn, 0, 0)]
def AX7_has : List (Nat × List xO) := [(0, oX7_has_0), (16, oX7_has_16), (17, oX7_has_17)]
theorem aX7_has : xTok tX7_has AX7_has = true := by decide +kernel
theorem rX7_has : tX7_has.2.2.2.2 = (some .boolean) := rfl
def oX7_hasPlaceFor_0 : List xO := [(.aload_n 0, 0, 0), (.getfield 18, 7, 0), (.iconst 5, 0, 0), (.if_icmp .lt 16, 21, 0), (.iload_n 1, 0, 0), (.aload_n 0, 0, 0), (.getfield 11, 7, 1), (.iconst 4, 0, 0), (.aaload, 0, 0), (.getfield 22, 6, 1), (.if_icmp .ge 7, 25, 0)]
def oX7_hasPlaceFor_21 : List xO := [(.iconst 1, 0, 0), (.goto 4, 26, 0)]
def oX7_hasPlaceFor_25 : List xO := [(.iconst 0, 0, 0)]
def oX7_hasPlaceFor_26 : List xO := [(.ireturn, 0, 0)]
def AX7_hasPlaceFor : List (Nat × List xO) := [(0, oX7_hasPlaceFor_0), (21, oX7_hasPlaceFor_21), (25, oX7_hasPlaceFor_25), (26, oX7_hasPlaceFor_26)]
theorem aX7_hasPlaceFor : xTok tX7_hasPlaceFor AX7_hasPlaceFor = true := by decide +kernel
theorem rX7_hasPlaceFor : tX7_hasPlaceFor.2.2.2.2 = (some .boolean) := rfl
def oX7_insert_0 : List xO := [(.aload_n 0, 0, 0), (.getfield 18, 7, 0), (.iconst 4, 0, 0)]
def oX7_insert_8 : List xO := [(.istore 4, 0, 0), (.aload_n 0, 0, 0), (.getfield 11, 7, 1), (.iload 4, 0, 0), (.aaload, 0, 0), (.astore 5, 0, 0)]
def oX7_insert_19 : List xO := [(.iload 4, 0, 0), (.ifCond .le 41, 62, 0), (.aload_n 0, 0, 0), (.getfield 11, 7, 1), (.iload 4, 0, 0), (.iconst 1, 0, 0), (.isub, 0, 0), (.aaload, 0, 0), (.getfield 22, 6, 1), (.iload_n 3, 0, 0), (.if_icmp .le 25, 62, 0), (.aload_n 0, 0, 0), (.getfield 11, 7, 1), (.iload 4, 0, 0), (.aload_n 0, 0, 0), (.getfield 11, 7, 1), (.iload 4, 0, 0), (.iconst 1, 0, 0), (.isub, 0, 0), (.aaload, 0, 0), (.aastore, 0, 0), (.iinc 4 (-1), 0, 0), (.goto (-40), 19, 0)]
def oX7_insert_62 : List xO := [(.aload 5, 0, 0), (.aload_n 1, 0, 0), (.iload_n 2, 0, 0), (.iload_n 3, 0, 0)]
def oX7_insert_70 : List xO := [(.aload_n 0, 0, 0), (.getfield 11, 7, 1), (.iload 4, 0, 0), (.aload 5, 0, 0), (.aastore, 0, 0), (.aload_n 0, 0, 0), (.aload_n 0, 0, 0), (.getfield 18, 7, 0), (.iconst 1, 0, 0), (.iadd, 0, 0), (.iconst 5, 0, 0)]
def oX7_insert_90 : List xO := [(.putfield 18, 7, 0), (.return_, 0, 0)]
def AX7_insert : List (Nat × List xO) := [(0, oX7_insert_0), (8, oX7_insert_8), (19, oX7_insert_19), (62, oX7_insert_62), (70, oX7_insert_70), (90, oX7_insert_90)]
theorem aX7_insert : xTok tX7_insert AX7_insert = true := by decide +kernel
theorem rX7_insert : tX7_insert.2.2.2.2 = none := rfl
theorem cX7_insert_5 {l : Launch} {d mc ms : Nat} {Q : xP} {kc ks n : Nat} {L : xL} {rest : List Value} {ws : xW} {x y : Int32} (hd : 1 ≤ d) (hr : (rest.map fun v => v.category).sum ≤ 8) (k : xX l tX7_insert d mc ms Q kc ks 8 L (.int (if y < x then y else x) :: rest) n ws) : xX l tX7_insert d mc ms Q kc ks 5 L (.int y :: .int x :: rest) n ws := xcallMin (t := tX7_insert) rfl k7_25 (by decide +kernel) hd hr k
theorem cX7_insert_67 {l : Launch} {d mc ms : Nat} {Q : xP} {kc ks n : Nat} {L : xL} {rest : List Value} {ws : xW} {v0 v1 v2 : Value} {b : Nat} {vs : List Value} (hw : ws b = some (6, .inr (.inr (.inr vs)))) {dc cc cs : Nat} {Q' : xP} (hd : dc + 1 ≤ d) (hkc : cc ≤ kc) (hks : cs ≤ ks) (hr : (rest.map fun v => v.category).sum ≤ 8) (hM : xM l tX6_copyFrom dc cc cs [.ref b, v0, v1, v2] n ws Q') (k : ∀ r n' ws', Q' r n' ws' → xX l tX7_insert d mc ms Q (kc - cc) (ks - cs) 70 L (r.toList ++ rest) n' ws') : xX l tX7_insert d mc ms Q kc ks 67 L (v2 :: v1 :: v0 :: .ref b :: rest) n ws := xcallV (t := tX7_insert) (As := [v0, v1, v2]) rfl mX6_copyFrom k7_31 (by decide +kernel) rfl rfl hw (by decide) hr hd hkc hks hM k
theorem cX7_insert_87 {l : Launch} {d mc ms : Nat} {Q : xP} {kc ks n : Nat} {L : xL} {rest : List Value} {ws : xW} {x y : Int32} (hd : 1 ≤ d) (hr : (rest.map fun v => v.category).sum ≤ 8) (k : xX l tX7_insert d mc ms Q kc ks 90 L (.int (if y < x then y else x) :: rest) n ws) : xX l tX7_insert d mc ms Q kc ks 87 L (.int y :: .int x :: rest) n ws := xcallMin (t := tX7_insert) rfl k7_25 (by decide +kernel) hd hr k
def oX8_init_0 : List xO := [(.aload_n 0, 0, 0)]
def oX8_init_4 : List xO := [(.aload_n 0, 0, 0), (.bipush 6, 0, 0), (.anewarray 9, 4, 0), (.putfield 11, 8, 0), (.aload_n 0, 0, 0), (.bipush 9, 0, 0), (.newarray .int, 0, 0), (.putfield 17, 8, 1), (.aload_n 0, 0, 0), (.bipush 10, 0, 0), (.newarray .int, 0, 0), (.putfield 21, 8, 2), (.aload_n 0, 0, 0), (.iconst (-1), 0, 0), (.putfield 24, 8, 3), (.iconst 0, 0, 0), (.istore_n 1, 0, 0)]
def oX8_init_36 : List xO := [(.iload_n 1, 0, 0), (.bipush 6, 0, 0), (.if_icmp .ge 22, 61, 0), (.aload_n 0, 0, 0), (.getfield 11, 8, 0), (.iload_n 1, 0, 0), (.new 9, 7, 0), (.dup, 0, 0)]
def oX8_init_54 : List xO := [(.aastore, 0, 0), (.iinc 1 1, 0, 0), (.goto (-22), 36, 0)]
def oX8_init_61 : List xO := [(.return_, 0, 0)]
def AX8_init : List (Nat × List xO) := [(0, oX8_init_0), (4, oX8_init_4), (36, oX8_init_36), (54, oX8_init_54), (61, oX8_init_61)]
theorem aX8_init : xTok tX8_init AX8_init = true := by decide +kernel
theorem rX8_init : tX8_init.2.2.2.2 = none := rfl
theorem cX8_init_1 {l : Launch} {d mc ms : Nat} {Q : xP} {kc ks n : Nat} {L : xL} {rest : List Value} {ws : xW} {b : Nat} (hd : 1 ≤ d) (hr : (rest.map fun v => v.category).sum ≤ 8) (k : xX l tX8_init d mc ms Q kc ks 4 L rest n ws) : xX l tX8_init d mc ms Q kc ks 1 L (.ref b :: rest) n ws := xcallO (t := tX8_init) rfl k8_3 (by decide +kernel) hd hr k
theorem cX8_init_51 {l : Launch} {d mc ms : Nat} {Q : xP} {kc ks n : Nat} {L : xL} {rest : List Value} {ws : xW} {b : Nat} {dc cc cs : Nat} {Q' : xP} (hd : dc + 1 ≤ d) (hkc : cc ≤ kc) (hks : cs ≤ ks) (hr : (rest.map fun v => v.category).sum ≤ 8) (hM : xM l tX7_init dc cc cs [.ref b] n ws Q') (k : ∀ r n' ws', Q' r n' ws' → xX l tX8_init d mc ms Q (kc - cc) (ks - cs) 54 L (r.toList ++ rest) n' ws') : xX l tX8_init d mc ms Q kc ks 51 L (.ref b :: rest) n ws := xcallI (t := tX8_init) (As := []) rfl mX7_init rfl rfl k8_28 (by decide +kernel) rfl rfl hr hd hkc hks hM k
def oX8_refresh_0 : List xO := [(.aload_n 0, 0, 0), (.getfield 24, 8, 3), (.aload_n 1, 0, 0), (.getfield 29, 4, 4), (.if_icmp .ne 4, 12, 0), (.return_, 0, 0)]
def oX8_refresh_12 : List xO := [(.iconst 0, 0, 0), (.istore_n 2, 0, 0)]
def oX8_refresh_14 : List xO := [(.iload_n 2, 0, 0), (.aload_n 1, 0, 0), (.getfield 32, 4, 2), (.if_icmp .ge 52, 71, 0), (.aload_n 0, 0, 0), (.getfield 11, 8, 0), (.iload_n 2, 0, 0), (.aaload, 0, 0), (.iconst 0, 0, 0), (.putfield 35, 7, 0), (.aload_n 0, 0, 0), (.aload_n 1, 0, 0), (.aload_n 1, 0, 0), (.getfield 38, 4, 10), (.iload_n 2, 0, 0), (.iaload, 0, 0)]
def oX8_refresh_43 : List xO := [(.aload_n 0, 0, 0), (.aload_n 1, 0, 0), (.iload_n 2, 0, 0), (.aload_n 1, 0, 0), (.getfield 45, 4, 9), (.iload_n 2, 0, 0), (.iaload, 0, 0), (.iconst 1, 0, 0), (.aload_n 1, 0, 0), (.getfield 45, 4, 9), (.iload_n 2, 0, 0), (.iaload, 0, 0), (.ishl, 0, 0), (.iconst 0, 0, 0), (.iconst 0, 0, 0)]
def oX8_refresh_65 : List xO := [(.iinc 2 1, 0, 0), (.goto (-54), 14, 0)]
def oX8_refresh_71 : List xO := [(.aload_n 0, 0, 0), (.aload_n 1, 0, 0), (.getfield 29, 4, 4), (.putfield 24, 8, 3), (.return_, 0, 0)]
def AX8_refresh : List (Nat × List xO) := [(0, oX8_refresh_0), (12, oX8_refresh_12), (14, oX8_refresh_14), (43, oX8_refresh_43), (65, oX8_refresh_65), (71, oX8_refresh_71)]
theorem aX8_refresh : xTok tX8_refresh AX8_refresh = true := by decide +kernel
theorem rX8_refresh : tX8_refresh.2.2.2.2 = none := rfl
theorem cX8_refresh_40 {l : Launch} {d mc ms : Nat} {Q : xP} {kc ks n : Nat} {L : xL} {rest : List Value} {ws : xW} {v0 v1 : Value} {b : Nat} {vs : List Value} (hw : ws b = some (8, .inr (.inr (.inr vs)))) {dc cc cs : Nat} {Q' : xP} (hd : dc + 1 ≤ d) (hkc : cc ≤ kc) (hks : cs ≤ ks) (hr : (rest.map fun v => v.category).sum ≤ 8) (hM : xM l tX8_measure dc cc cs [.ref b, v0, v1] n ws Q') (k : ∀ r n' ws', Q' r n' ws' → xX l tX8_refresh d mc ms Q (kc - cc) (ks - cs) 43 L (r.toList ++ rest) n' ws') : xX l tX8_refresh d mc ms Q kc ks 40 L (v1 :: v0 :: .ref b :: rest) n ws := xcallV (t := tX8_refresh) (As := [v0, v1]) rfl mX8_measure k8_41 (by decide +kernel) rfl rfl hw (by decide) hr hd hkc hks hM k
theorem cX8_refresh_62 {l : Launch} {d mc ms : Nat} {Q : xP} {kc ks n : Nat} {L : xL} {rest : List Value} {ws : xW} {v0 v1 v2 v3 v4 v5 : Value} {b : Nat} {vs : List Value} (hw : ws b = some (8, .inr (.inr (.inr vs)))) {dc cc cs : Nat} {Q' : xP} (hd : dc + 1 ≤ d) (hkc : cc ≤ kc) (hks : cs ≤ ks) (hr : (rest.map fun v => v.category).sum ≤ 8) (hM : xM l tX8_walk dc cc cs [.ref b, v0, v1, v2, v3, v4, v5] n ws Q') (k : ∀ r n' ws', Q' r n' ws' → xX l tX8_refresh d mc ms Q (kc - cc) (ks - cs) 65 L (r.toList ++ rest) n' ws') : xX l tX8_refresh d mc ms Q kc ks 62 L (v5 :: v4 :: v3 :: v2 :: v1 :: v0 :: .ref b :: rest) n ws := xcallV (t := tX8_refresh) (As := [v0, v1, v2, v3, v4, v5]) rfl mX8_walk k8_48 (by decide +kernel) rfl rfl hw (by decide) hr hd hkc hks hM k
def oX8_measure_0 : List xO := [(.iconst 0, 0, 0), (.istore_n 3, 0, 0)]
def oX8_measure_2 : List xO := [(.iload_n 3, 0, 0), (.bipush 10, 0, 0), (.if_icmp .ge 27, 32, 0), (.aload_n 0, 0, 0), (.getfield 21, 8, 2), (.iload_n 3, 0, 0), (.iload_n 3, 0, 0), (.iload_n 2, 0, 0), (.if_icmp .ne 7, 22, 0), (.iconst 0, 0, 0), (.goto 6, 25, 0)]
def oX8_measure_22 : List xO := [(.sipush 1000, 0, 0)]
def oX8_measure_25 : List xO := [(.iastore, 0, 0), (.iinc 3 1, 0, 0), (.goto (-27), 2, 0)]
def oX8_measure_32 : List xO := [(.iconst 1, 0, 0), (.istore_n 3, 0, 0), (.iconst 0, 0, 0), (.istore 4, 0, 0)]
def oX8_measure_37 : List xO := [(.iload 4, 0, 0), (.bipush 10, 0, 0), (.if_icmp .ge 88, 129, 0), (.iload_n 3, 0, 0), (.ifCond .eq 84, 129, 0), (.iconst 0, 0, 0), (.istore_n 3, 0, 0), (.iconst 0, 0, 0), (.istore 5, 0, 0)]
def oX8_measure_53 : List xO := [(.iload 5, 0, 0), (.aload_n 1, 0, 0), (.getfield 52, 4, 1), (.if_icmp .ge 64, 123, 0), (.aload_n 1, 0, 0), (.getfield 55, 4, 8), (.iload 5, 0, 0), (.iaload, 0, 0), (.aload_n 0, 0, 0), (.getfield 21, 8, 2), (.aload_n 1, 0, 0), (.getfield 58, 4, 6), (.iload 5, 0, 0), (.iaload, 0, 0), (.iaload, 0, 0), (.iadd, 0, 0), (.istore 6, 0, 0), (.iload 6, 0, 0), (.aload_n 0, 0, 0), (.getfield 21, 8, 2), (.aload_n 1, 0, 0), (.getfield 61, 4, 5), (.iload 5, 0, 0), (.iaload, 0, 0), (.iaload, 0, 0), (.if_icmp .ge 19, 117, 0), (.aload_n 0, 0, 0), (.getfield 21, 8, 2), (.aload_n 1, 0, 0), (.getfield 61, 4, 5), (.iload 5, 0, 0), (.iaload, 0, 0), (.iload 6, 0, 0), (.iastore, 0, 0), (.iconst 1, 0, 0), (.istore_n 3, 0, 0)]
def oX8_measure_117 : List xO := [(.iinc 5 1, 0, 0), (.goto (-67), 53, 0)]
def oX8_measure_123 : List xO := [(.iinc 4 1, 0, 0), (.goto (-89), 37, 0)]
def oX8_measure_129 : List xO := [(.return_, 0, 0)]
def AX8_measure : List (Nat × List xO) := [(0, oX8_measure_0), (2, oX8_measure_2), (22, oX8_measure_22), (25, oX8_measure_25), (32, oX8_measure_32), (37, oX8_measure_37), (53, oX8_measure_53), (117, oX8_measure_117), (123, oX8_measure_123), (129, oX8_measure_129)]
theorem aX8_measure : xTok tX8_measure AX8_measure = true := by decide +kernel
theorem rX8_measure : tX8_measure.2.2.2.2 = none := rfl
def oX8_walk_0 : List xO := [(.iload_n 3, 0, 0), (.aload_n 1, 0, 0), (.getfield 38, 4, 10), (.iload_n 2, 0, 0), (.iaload, 0, 0), (.if_icmp .ne 21, 28, 0), (.aload_n 0, 0, 0), (.getfield 11, 8, 0), (.iload_n 2, 0, 0), (.aaload, 0, 0), (.aload_n 0, 0, 0), (.getfield 17, 8, 1), (.iload 5, 0, 0), (.iload 6, 0, 0)]
def oX8_walk_27 : List xO := [(.return_, 0, 0)]
def oX8_walk_28 : List xO := [(.iload 5, 0, 0), (.bipush 9, 0, 0), (.if_icmp .lt 4, 36, 0), (.return_, 0, 0)]
def oX8_walk_36 : List xO := [(.iconst 0, 0, 0), (.istore 7, 0, 0)]
def oX8_walk_39 : List xO := [(.iload 7, 0, 0), (.aload_n 1, 0, 0), (.getfield 52, 4, 1), (.if_icmp .ge 73, 118, 0), (.aload_n 1, 0, 0), (.getfield 58, 4, 6), (.iload 7, 0, 0), (.iaload, 0, 0), (.istore 8, 0, 0), (.aload_n 1, 0, 0), (.getfield 61, 4, 5), (.iload 7, 0, 0), (.iaload, 0, 0), (.iload_n 3, 0, 0), (.if_icmp .ne 47, 112, 0), (.iload 4, 0, 0), (.iload 8, 0, 0), (.ishr, 0, 0), (.iconst 1, 0, 0), (.iand, 0, 0), (.ifCond .ne 37, 112, 0), (.aload_n 0, 0, 0), (.iload_n 2, 0, 0), (.iload 8, 0, 0), (.iload 6, 0, 0), (.aload_n 1, 0, 0), (.getfield 55, 4, 8), (.iload 7, 0, 0), (.iaload, 0, 0), (.iadd, 0, 0)]
def oX8_walk_95 : List xO := [(.ifCond .eq 17, 112, 0), (.aload_n 0, 0, 0), (.aload_n 1, 0, 0), (.iload_n 2, 0, 0), (.iload 7, 0, 0), (.iload 4, 0, 0), (.iload 5, 0, 0), (.iload 6, 0, 0)]
def oX8_walk_112 : List xO := [(.iinc 7 1, 0, 0), (.goto (-76), 39, 0)]
def oX8_walk_118 : List xO := [(.return_, 0, 0)]
def AX8_walk : List (Nat × List xO) := [(0, oX8_walk_0), (27, oX8_walk_27), (28, oX8_walk_28), (36, oX8_walk_36), (39, oX8_walk_39), (95, oX8_walk_95), (112, oX8_walk_112), (118, oX8_walk_118)]
theorem aX8_walk : xTok tX8_walk AX8_walk = true := by decide +kernel
theorem rX8_walk : tX8_walk.2.2.2.2 = none := rfl
theorem cX8_walk_24 {l : Launch} {d mc ms : Nat} {Q : xP} {kc ks n : Nat} {L : xL} {rest : List Value} {ws : xW} {v0 v1 v2 : Value} {b : Nat} {vs : List Value} (hw : ws b = some (7, .inr (.inr (.inr vs)))) {dc cc cs : Nat} {Q' : xP} (hd : dc + 1 ≤ d) (hkc : cc ≤ kc) (hks : cs ≤ ks) (hr : (rest.map fun v => v.category).sum ≤ 8) (hM : xM l tX7_insert dc cc cs [.ref b, v0, v1, v2] n ws Q') (k : ∀ r n' ws', Q' r n' ws' → xX l tX8_walk d mc ms Q (kc - cc) (ks - cs) 27 L (r.toList ++ rest) n' ws') : xX l tX8_walk d mc ms Q kc ks 24 L (v2 :: v1 :: v0 :: .ref b :: rest) n ws := xcallV (t := tX8_walk) (As := [v0, v1, v2]) rfl mX7_insert k8_64 (by decide +kernel) rfl rfl hw (by decide) hr hd hkc hks hM k
theorem cX8_walk_92 {l : Launch} {d mc ms : Nat} {Q : xP} {kc ks n : Nat} {L : xL} {rest : List Value} {ws : xW} {v0 v1 v2 : Value} {b : Nat} {vs : List Value} (hw : ws b = some (8, .inr (.inr (.inr vs)))) {dc cc cs : Nat} {Q' : xP} (hd : dc + 1 ≤ d) (hkc : cc ≤ kc) (hks : cs ≤ ks) (hr : (rest.map fun v => v.category).sum ≤ 8) (hM : xM l tX8_isWorthwhile dc cc cs [.ref b, v0, v1, v2] n ws Q') (k : ∀ r n' ws', Q' r n' ws' → xX l tX8_walk d mc ms Q (kc - cc) (ks - cs) 95 L (r.toList ++ rest) n' ws') : xX l tX8_walk d mc ms Q kc ks 92 L (v2 :: v1 :: v0 :: .ref b :: rest) n ws := xcallV (t := tX8_walk) (As := [v0, v1, v2]) rfl mX8_isWorthwhile k8_68 (by decide +kernel) rfl rfl hw (by decide) hr hd hkc hks hM k
theorem cX8_walk_109 {l : Launch} {d mc ms : Nat} {Q : xP} {kc ks n : Nat} {L : xL} {rest : List Value} {ws : xW} {v0 v1 v2 v3 v4 v5 : Value} {b : Nat} {vs : List Value} (hw : ws b = some (8, .inr (.inr (.inr vs)))) {dc cc cs : Nat} {Q' : xP} (hd : dc + 1 ≤ d) (hkc : cc ≤ kc) (hks : cs ≤ ks) (hr : (rest.map fun v => v.category).sum ≤ 8) (hM : xM l tX8_follow dc cc cs [.ref b, v0, v1, v2, v3, v4, v5] n ws Q') (k : ∀ r n' ws', Q' r n' ws' → xX l tX8_walk d mc ms Q (kc - cc) (ks - cs) 112 L (r.toList ++ rest) n' ws') : xX l tX8_walk d mc ms Q kc ks 109 L (v5 :: v4 :: v3 :: v2 :: v1 :: v0 :: .ref b :: rest) n ws := xcallV (t := tX8_walk) (As := [v0, v1, v2, v3, v4, v5]) rfl mX8_follow k8_72 (by decide +kernel) rfl rfl hw (by decide) hr hd hkc hks hM k
def oX8_follow_0 : List xO := [(.aload_n 1, 0, 0), (.getfield 58, 4, 6), (.iload_n 3, 0, 0), (.iaload, 0, 0), (.istore 7, 0, 0), (.aload_n 0, 0, 0), (.getfield 17, 8, 1), (.iload 5, 0, 0), (.iload_n 3, 0, 0), (.iastore, 0, 0), (.aload_n 0, 0, 0), (.aload_n 1, 0, 0), (.iload_n 2, 0, 0), (.iload 7, 0, 0), (.iload 4, 0, 0), (.iconst 1, 0, 0), (.iload 7, 0, 0), (.ishl, 0, 0), (.ior, 0, 0), (.iload 5, 0, 0), (.iconst 1, 0, 0), (.iadd, 0, 0), (.iload 6, 0, 0), (.aload_n 1, 0, 0), (.getfield 55, 4, 8), (.iload_n 3, 0, 0), (.iaload, 0, 0), (.iadd, 0, 0)]
def oX8_follow_44 : List xO := [(.return_, 0, 0)]
def AX8_follow : List (Nat × List xO) := [(0, oX8_follow_0), (44, oX8_follow_44)]
theorem aX8_follow : xTok tX8_follow AX8_follow = true := by decide +kernel
theorem rX8_follow : tX8_follow.2.2.2.2 = none := rfl
theorem cX8_follow_41 {l : Launch} {d mc ms : Nat} {Q : xP} {kc ks n : Nat} {L : xL} {rest : List Value} {ws : xW} {v0 v1 v2 v3 v4 v5 : Value} {b : Nat} {vs : List Value} (hw : ws b = some (8, .inr (.inr (.inr vs)))) {dc cc cs : Nat} {Q' : xP} (hd : dc + 1 ≤ d) (hkc : cc ≤ kc) (hks : cs ≤ ks) (hr : (rest.map fun v => v.category).sum ≤ 8) (hM : xM l tX8_walk dc cc cs [.ref b, v0, v1, v2, v3, v4, v5] n ws Q') (k : ∀ r n' ws', Q' r n' ws' → xX l tX8_follow d mc ms Q (kc - cc) (ks - cs) 44 L (r.toList ++ rest) n' ws') : xX l tX8_follow d mc ms Q kc ks 41 L (v5 :: v4 :: v3 :: v2 :: v1 :: v0 :: .ref b :: rest) n ws := xcallV (t := tX8_follow) (As := [v0, v1, v2, v3, v4, v5]) rfl mX8_walk k8_48 (by decide +kernel) rfl rfl hw (by decide) hr hd hkc hks hM k
def oX8_isWorthwhile_0 : List xO := [(.aload_n 0, 0, 0), (.getfield 21, 8, 2), (.iload_n 2, 0, 0), (.iaload, 0, 0), (.sipush 1000, 0, 0), (.if_icmp .ge 27, 36, 0), (.aload_n 0, 0, 0), (.getfield 11, 8, 0), (.iload_n 1, 0, 0), (.aaload, 0, 0), (.iload_n 3, 0, 0), (.aload_n 0, 0, 0), (.getfield 21, 8, 2), (.iload_n 2, 0, 0), (.iaload, 0, 0), (.iadd, 0, 0)]
def oX8_isWorthwhile_29 : List xO := [(.ifCond .eq 7, 36, 0), (.iconst 1, 0, 0), (.goto 4, 37, 0)]
def oX8_isWorthwhile_36 : List xO := [(.iconst 0, 0, 0)]
def oX8_isWorthwhile_37 : List xO := [(.ireturn, 0, 0)]
def AX8_isWorthwhile : List (Nat × List xO) := [(0, oX8_isWorthwhile_0), (29, oX8_isWorthwhile_29), (36, oX8_isWorthwhile_36), (37, oX8_isWorthwhile_37)]
theorem aX8_isWorthwhile : xTok tX8_isWorthwhile AX8_isWorthwhile = true := by decide +kernel
theorem rX8_isWorthwhile : tX8_isWorthwhile.2.2.2.2 = (some .boolean) := rfl
theorem cX8_isWorthwhile_26 {l : Launch} {d mc ms : Nat} {Q : xP} {kc ks n : Nat} {L : xL} {rest : List Value} {ws : xW} {v0 : Value} {b : Nat} {vs : List Value} (hw : ws b = some (7, .inr (.inr (.inr vs)))) {dc cc cs : Nat} {Q' : xP} (hd : dc + 1 ≤ d) (hkc : cc ≤ kc) (hks : cs ≤ ks) (hr : (rest.map fun v => v.category).sum ≤ 8) (hM : xM l tX7_hasPlaceFor dc cc cs [.ref b, v0] n ws Q') (k : ∀ r n' ws', Q' r n' ws' → xX l tX8_isWorthwhile d mc ms Q (kc - cc) (ks - cs) 29 L (r.toList ++ rest) n' ws') : xX l tX8_isWorthwhile d mc ms Q kc ks 26 L (v0 :: .ref b :: rest) n ws := xcallV (t := tX8_isWorthwhile) (As := [v0]) rfl mX7_hasPlaceFor k8_75 (by decide +kernel) rfl rfl hw (by decide) hr hd hkc hks hM k
def oX9_init_0 : List xO := [(.aload_n 0, 0, 0)]
def oX9_init_4 : List xO := [(.aload_n 0, 0, 0), (.new 9, 4, 0), (.dup, 0, 0)]
def oX9_init_12 : List xO := [(.putfield 12, 9, 0), (.aload_n 0, 0, 0), (.new 16, 8, 0), (.dup, 0, 0)]
def oX9_init_23 : List xO := [(.putfield 19, 9, 1), (.aload_n 0, 0, 0), (.new 23, 5, 0), (.dup, 0, 0)]
def oX9_init_34 : List xO := [(.putfield 26, 9, 2), (.aload_n 0, 0, 0), (.new 23, 5, 0), (.dup, 0, 0)]
def oX9_init_45 : List xO := [(.putfield 30, 9, 3), (.aload_n 0, 0, 0), (.new 33, 3, 0), (.dup, 0, 0)]
def oX9_init_56 : List xO := [(.putfield 36, 9, 4), (.aload_n 0, 0, 0), (.new 33, 3, 0), (.dup, 0, 0)]
def oX9_init_67 : List xO := [(.putfield 40, 9, 5), (.aload_n 0, 0, 0), (.bipush 6, 0, 0), (.newarray .int, 0, 0), (.putfield 43, 9, 6), (.aload_n 0, 0, 0), (.new 47, 0, 0), (.dup, 0, 0)]
def oX9_init_86 : List xO := [(.putfield 50, 9, 7), (.aload_n 0, 0, 0), (.new 54, 1, 0), (.dup, 0, 0)]
def oX9_init_97 : List xO := [(.putfield 57, 9, 8), (.aload_n 0, 0, 0), (.iconst (-1), 0, 0), (.putfield 61, 9, 9), (.iconst 0, 0, 0), (.istore_n 1, 0, 0)]
def oX9_init_107 : List xO := [(.iload_n 1, 0, 0), (.bipush 6, 0, 0), (.if_icmp .ge 16, 126, 0), (.aload_n 0, 0, 0), (.getfield 43, 9, 6), (.iload_n 1, 0, 0), (.iconst (-1), 0, 0), (.iastore, 0, 0), (.iinc 1 1, 0, 0), (.goto (-16), 107, 0)]
def oX9_init_126 : List xO := [(.return_, 0, 0)]
def AX9_init : List (Nat × List xO) := [(0, oX9_init_0), (4, oX9_init_4), (12, oX9_init_12), (23, oX9_init_23), (34, oX9_init_34), (45, oX9_init_45), (56, oX9_init_56), (67, oX9_init_67), (86, oX9_init_86), (97, oX9_init_97), (107, oX9_init_107), (126, oX9_init_126)]
theorem aX9_init : xTok tX9_init AX9_init = true := by decide +kernel
theorem rX9_init : tX9_init.2.2.2.2 = none := rfl
theorem cX9_init_1 {l : Launch} {d mc ms : Nat} {Q : xP} {kc ks n : Nat} {L : xL} {rest : List Value} {ws : xW} {b : Nat} (hd : 1 ≤ d) (hr : (rest.map fun v => v.category).sum ≤ 8) (k : xX l tX9_init d mc ms Q kc ks 4 L rest n ws) : xX l tX9_init d mc ms Q kc ks 1 L (.ref b :: rest) n ws := xcallO (t := tX9_init) rfl k9_3 (by decide +kernel) hd hr k
theorem cX9_init_9 {l : Launch} {d mc ms : Nat} {Q : xP} {kc ks n : Nat} {L : xL} {rest : List Value} {ws : xW} {b : Nat} {dc cc cs : Nat} {Q' : xP} (hd : dc + 1 ≤ d) (hkc : cc ≤ kc) (hks : cs ≤ ks) (hr : (rest.map fun v => v.category).sum ≤ 8) (hM : xM l tX4_init dc cc cs [.ref b] n ws Q') (k : ∀ r n' ws', Q' r n' ws' → xX l tX9_init d mc ms Q (kc - cc) (ks - cs) 12 L (r.toList ++ rest) n' ws') : xX l tX9_init d mc ms Q kc ks 9 L (.ref b :: rest) n ws := xcallIN (t := tX9_init) (As := []) rfl mX4_init rfl rfl k9_11 nX4_init (by decide +kernel) rfl rfl hr hd hkc hks hM k
theorem cX9_init_20 {l : Launch} {d mc ms : Nat} {Q : xP} {kc ks n : Nat} {L : xL} {rest : List Value} {ws : xW} {b : Nat} {dc cc cs : Nat} {Q' : xP} (hd : dc + 1 ≤ d) (hkc : cc ≤ kc) (hks : cs ≤ ks) (hr : (rest.map fun v => v.category).sum ≤ 8) (hM : xM l tX8_init dc cc cs [.ref b] n ws Q') (k : ∀ r n' ws', Q' r n' ws' → xX l tX9_init d mc ms Q (kc - cc) (ks - cs) 23 L (r.toList ++ rest) n' ws') : xX l tX9_init d mc ms Q kc ks 20 L (.ref b :: rest) n ws := xcallI (t := tX9_init) (As := []) rfl mX8_init rfl rfl k9_18 (by decide +kernel) rfl rfl hr hd hkc hks hM k
theorem cX9_init_31 {l : Launch} {d mc ms : Nat} {Q : xP} {kc ks n : Nat} {L : xL} {rest : List Value} {ws : xW} {b : Nat} {dc cc cs : Nat} {Q' : xP} (hd : dc + 1 ≤ d) (hkc : cc ≤ kc) (hks : cs ≤ ks) (hr : (rest.map fun v => v.category).sum ≤ 8) (hM : xM l tX5_init dc cc cs [.ref b] n ws Q') (k : ∀ r n' ws', Q' r n' ws' → xX l tX9_init d mc ms Q (kc - cc) (ks - cs) 34 L (r.toList ++ rest) n' ws') : xX l tX9_init d mc ms Q kc ks 31 L (.ref b :: rest) n ws := xcallIN (t := tX9_init) (As := []) rfl mX5_init rfl rfl k9_25 nX5_init (by decide +kernel) rfl rfl hr hd hkc hks hM k
theorem cX9_init_42 {l : Launch} {d mc ms : Nat} {Q : xP} {kc ks n : Nat} {L : xL} {rest : List Value} {ws : xW} {b : Nat} {dc cc cs : Nat} {Q' : xP} (hd : dc + 1 ≤ d) (hkc : cc ≤ kc) (hks : cs ≤ ks) (hr : (rest.map fun v => v.category).sum ≤ 8) (hM : xM l tX5_init dc cc cs [.ref b] n ws Q') (k : ∀ r n' ws', Q' r n' ws' → xX l tX9_init d mc ms Q (kc - cc) (ks - cs) 45 L (r.toList ++ rest) n' ws') : xX l tX9_init d mc ms Q kc ks 42 L (.ref b :: rest) n ws := xcallIN (t := tX9_init) (As := []) rfl mX5_init rfl rfl k9_25 nX5_init (by decide +kernel) rfl rfl hr hd hkc hks hM k
theorem cX9_init_53 {l : Launch} {d mc ms : Nat} {Q : xP} {kc ks n : Nat} {L : xL} {rest : List Value} {ws : xW} {b : Nat} {dc cc cs : Nat} {Q' : xP} (hd : dc + 1 ≤ d) (hkc : cc ≤ kc) (hks : cs ≤ ks) (hr : (rest.map fun v => v.category).sum ≤ 8) (hM : xM l tX3_init dc cc cs [.ref b] n ws Q') (k : ∀ r n' ws', Q' r n' ws' → xX l tX9_init d mc ms Q (kc - cc) (ks - cs) 56 L (r.toList ++ rest) n' ws') : xX l tX9_init d mc ms Q kc ks 53 L (.ref b :: rest) n ws := xcallIN (t := tX9_init) (As := []) rfl mX3_init rfl rfl k9_35 nX3_init (by decide +kernel) rfl rfl hr hd hkc hks hM k
theorem cX9_init_64 {l : Launch} {d mc ms : Nat} {Q : xP} {kc ks n : Nat} {L : xL} {rest : List Value} {ws : xW} {b : Nat} {dc cc cs : Nat} {Q' : xP} (hd : dc + 1 ≤ d) (hkc : cc ≤ kc) (hks : cs ≤ ks) (hr : (rest.map fun v => v.category).sum ≤ 8) (hM : xM l tX3_init dc cc cs [.ref b] n ws Q') (k : ∀ r n' ws', Q' r n' ws' → xX l tX9_init d mc ms Q (kc - cc) (ks - cs) 67 L (r.toList ++ rest) n' ws') : xX l tX9_init d mc ms Q kc ks 64 L (.ref b :: rest) n ws := xcallIN (t := tX9_init) (As := []) rfl mX3_init rfl rfl k9_35 nX3_init (by decide +kernel) rfl rfl hr hd hkc hks hM k
theorem cX9_init_83 {l : Launch} {d mc ms : Nat} {Q : xP} {kc ks n : Nat} {L : xL} {rest : List Value} {ws : xW} {b : Nat} {dc cc cs : Nat} {Q' : xP} (hd : dc + 1 ≤ d) (hkc : cc ≤ kc) (hks : cs ≤ ks) (hr : (rest.map fun v => v.category).sum ≤ 8) (hM : xM l tX0_init dc cc cs [.ref b] n ws Q') (k : ∀ r n' ws', Q' r n' ws' → xX l tX9_init d mc ms Q (kc - cc) (ks - cs) 86 L (r.toList ++ rest) n' ws') : xX l tX9_init d mc ms Q kc ks 83 L (.ref b :: rest) n ws := xcallI (t := tX9_init) (As := []) rfl mX0_init rfl rfl k9_49 (by decide +kernel) rfl rfl hr hd hkc hks hM k
theorem cX9_init_94 {l : Launch} {d mc ms : Nat} {Q : xP} {kc ks n : Nat} {L : xL} {rest : List Value} {ws : xW} {b : Nat} {dc cc cs : Nat} {Q' : xP} (hd : dc + 1 ≤ d) (hkc : cc ≤ kc) (hks : cs ≤ ks) (hr : (rest.map fun v => v.category).sum ≤ 8) (hM : xM l tX1_init dc cc cs [.ref b] n ws Q') (k : ∀ r n' ws', Q' r n' ws' → xX l tX9_init d mc ms Q (kc - cc) (ks - cs) 97 L (r.toList ++ rest) n' ws') : xX l tX9_init d mc ms Q kc ks 94 L (.ref b :: rest) n ws := xcallIN (t := tX9_init) (As := []) rfl mX1_init rfl rfl k9_56 nX1_init (by decide +kernel) rfl rfl hr hd hkc hks hM k
def oX9_node_0 : List xO := [(.aload_n 0, 0, 0), (.getfield 12, 9, 0), (.getfield 65, 4, 0), (.bipush 10, 0, 0), (.if_icmp .lt 6, 15, 0), (.bipush (-3), 0, 0), (.ireturn, 0, 0)]
def oX9_node_15 : List xO := [(.aload_n 0, 0, 0), (.getfield 12, 9, 0), (.dup, 0, 0), (.getfield 68, 4, 3), (.iconst 1, 0, 0), (.iadd, 0, 0), (.putfield 68, 4, 3), (.aload_n 0, 0, 0), (.getfield 12, 9, 0), (.dup, 0, 0), (.getfield 65, 4, 0), (.dup_x1, 0, 0), (.iconst 1, 0, 0), (.iadd, 0, 0), (.putfield 65, 4, 0), (.ireturn, 0, 0)]
def AX9_node : List (Nat × List xO) := [(0, oX9_node_0), (15, oX9_node_15)]
theorem aX9_node : xTok tX9_node AX9_node = true := by decide +kernel
theorem rX9_node : tX9_node.2.2.2.2 = (some .int) := rfl
def oX9_arc_0 : List xO := [(.aload_n 0, 0, 0), (.getfield 12, 9, 0), (.iload_n 1, 0, 0), (.iload_n 2, 0, 0)]
def oX9_arc_9 : List xO := [(.ifCond .eq 25, 34, 0), (.iload_n 3, 0, 0), (.iconst 0, 0, 0), (.sipush 1000, 0, 0)]
def oX9_arc_20 : List xO := [(.ifCond .eq 14, 34, 0), (.iload 4, 0, 0), (.iconst 0, 0, 0), (.bipush 100, 0, 0)]
def oX9_arc_31 : List xO := [(.ifCond .ne 6, 37, 0)]
def oX9_arc_34 : List xO := [(.bipush (-2), 0, 0), (.ireturn, 0, 0)]
def oX9_arc_37 : List xO := [(.aload_n 0, 0, 0), (.getfield 12, 9, 0), (.getfield 79, 4, 1), (.bipush 24, 0, 0), (.if_icmp .lt 6, 52, 0), (.bipush (-3), 0, 0), (.ireturn, 0, 0)]
def oX9_arc_52 : List xO := [(.aload_n 0, 0, 0), (.getfield 12, 9, 0), (.iload_n 1, 0, 0), (.iload_n 2, 0, 0), (.iload_n 3, 0, 0), (.iload 4, 0, 0)]
def oX9_arc_64 : List xO := [(.ireturn, 0, 0)]
def AX9_arc : List (Nat × List xO) := [(0, oX9_arc_0), (9, oX9_arc_9), (20, oX9_arc_20), (31, oX9_arc_31), (34, oX9_arc_34), (37, oX9_arc_37), (52, oX9_arc_52), (64, oX9_arc_64)]
theorem aX9_arc : xTok tX9_arc AX9_arc = true := by decide +kernel
theorem rX9_arc : tX9_arc.2.2.2.2 = (some .int) := rfl
theorem cX9_arc_6 {l : Launch} {d mc ms : Nat} {Q : xP} {kc ks n : Nat} {L : xL} {rest : List Value} {ws : xW} {v0 v1 : Value} {b : Nat} {vs : List Value} (hw : ws b = some (4, .inr (.inr (.inr vs)))) {dc cc cs : Nat} {Q' : xP} (hd : dc + 1 ≤ d) (hkc : cc ≤ kc) (hks : cs ≤ ks) (hr : (rest.map fun v => v.category).sum ≤ 8) (hM : xM l tX4_areTwoNodes dc cc cs [.ref b, v0, v1] n ws Q') (k : ∀ r n' ws', Q' r n' ws' → xX l tX9_arc d mc ms Q (kc - cc) (ks - cs) 9 L (r.toList ++ rest) n' ws') : xX l tX9_arc d mc ms Q kc ks 6 L (v1 :: v0 :: .ref b :: rest) n ws := xcallV (t := tX9_arc) (As := [v0, v1]) rfl mX4_areTwoNodes k9_71 (by decide +kernel) rfl rfl hw (by decide) hr hd hkc hks hM k
theorem cX9_arc_17 {l : Launch} {d mc ms : Nat} {Q : xP} {kc ks n : Nat} {L : xL} {rest : List Value} {ws : xW} {v0 v1 v2 : Value} {dc cc cs : Nat} {Q' : xP} (hd : dc + 1 ≤ d) (hkc : cc ≤ kc) (hks : cs ≤ ks) (hr : (rest.map fun v => v.category).sum ≤ 8) (hM : xM l tX9_isWithin dc cc cs [v0, v1, v2] n ws Q') (k : ∀ r n' ws', Q' r n' ws' → xX l tX9_arc d mc ms Q (kc - cc) (ks - cs) 20 L (r.toList ++ rest) n' ws') : xX l tX9_arc d mc ms Q kc ks 17 L (v2 :: v1 :: v0 :: rest) n ws := xcallS (t := tX9_arc) (As := [v0, v1, v2]) rfl mX9_isWithin k9_75 (by decide +kernel) rfl rfl hr hd hkc hks hM k
theorem cX9_arc_28 {l : Launch} {d mc ms : Nat} {Q : xP} {kc ks n : Nat} {L : xL} {rest : List Value} {ws : xW} {v0 v1 v2 : Value} {dc cc cs : Nat} {Q' : xP} (hd : dc + 1 ≤ d) (hkc : cc ≤ kc) (hks : cs ≤ ks) (hr : (rest.map fun v => v.category).sum ≤ 8) (hM : xM l tX9_isWithin dc cc cs [v0, v1, v2] n ws Q') (k : ∀ r n' ws', Q' r n' ws' → xX l tX9_arc d mc ms Q (kc - cc) (ks - cs) 31 L (r.toList ++ rest) n' ws') : xX l tX9_arc d mc ms Q kc ks 28 L (v2 :: v1 :: v0 :: rest) n ws := xcallS (t := tX9_arc) (As := [v0, v1, v2]) rfl mX9_isWithin k9_75 (by decide +kernel) rfl rfl hr hd hkc hks hM k
theorem cX9_arc_61 {l : Launch} {d mc ms : Nat} {Q : xP} {kc ks n : Nat} {L : xL} {rest : List Value} {ws : xW} {v0 v1 v2 v3 : Value} {b : Nat} {vs : List Value} (hw : ws b = some (4, .inr (.inr (.inr vs)))) {dc cc cs : Nat} {Q' : xP} (hd : dc + 1 ≤ d) (hkc : cc ≤ kc) (hks : cs ≤ ks) (hr : (rest.map fun v => v.category).sum ≤ 8) (hM : xM l tX4_addArc dc cc cs [.ref b, v0, v1, v2, v3] n ws Q') (k : ∀ r n' ws', Q' r n' ws' → xX l tX9_arc d mc ms Q (kc - cc) (ks - cs) 64 L (r.toList ++ rest) n' ws') : xX l tX9_arc d mc ms Q kc ks 61 L (v3 :: v2 :: v1 :: v0 :: .ref b :: rest) n ws := xcallV (t := tX9_arc) (As := [v0, v1, v2, v3]) rfl mX4_addArc k9_82 (by decide +kernel) rfl rfl hw (by decide) hr hd hkc hks hM k
def oX9_capacity_0 : List xO := [(.aload_n 0, 0, 0), (.getfield 12, 9, 0), (.iload_n 1, 0, 0)]
def oX9_capacity_8 : List xO := [(.ifCond .eq 14, 22, 0), (.iload_n 2, 0, 0), (.iconst 0, 0, 0), (.sipush 1000, 0, 0)]
def oX9_capacity_19 : List xO := [(.ifCond .ne 6, 25, 0)]
def oX9_capacity_22 : List xO := [(.bipush (-2), 0, 0), (.ireturn, 0, 0)]
def oX9_capacity_25 : List xO := [(.aload_n 0, 0, 0), (.getfield 12, 9, 0), (.getfield 90, 4, 7), (.iload_n 1, 0, 0), (.iaload, 0, 0), (.istore_n 3, 0, 0), (.aload_n 0, 0, 0), (.getfield 12, 9, 0), (.getfield 90, 4, 7), (.iload_n 1, 0, 0), (.iload_n 2, 0, 0), (.iastore, 0, 0), (.aload_n 0, 0, 0), (.getfield 12, 9, 0), (.dup, 0, 0), (.getfield 68, 4, 3), (.iconst 1, 0, 0), (.iadd, 0, 0), (.putfield 68, 4, 3), (.iload_n 3, 0, 0), (.ireturn, 0, 0)]
def AX9_capacity : List (Nat × List xO) := [(0, oX9_capacity_0), (8, oX9_capacity_8), (19, oX9_capacity_19), (22, oX9_capacity_22), (25, oX9_capacity_25)]
theorem aX9_capacity : xTok tX9_capacity AX9_capacity = true := by decide +kernel
theorem rX9_capacity : tX9_capacity.2.2.2.2 = (some .int) := rfl
theorem cX9_capacity_5 {l : Launch} {d mc ms : Nat} {Q : xP} {kc ks n : Nat} {L : xL} {rest : List Value} {ws : xW} {v0 : Value} {b : Nat} {vs : List Value} (hw : ws b = some (4, .inr (.inr (.inr vs)))) {dc cc cs : Nat} {Q' : xP} (hd : dc + 1 ≤ d) (hkc : cc ≤ kc) (hks : cs ≤ ks) (hr : (rest.map fun v => v.category).sum ≤ 8) (hM : xM l tX4_isArc dc cc cs [.ref b, v0] n ws Q') (k : ∀ r n' ws', Q' r n' ws' → xX l tX9_capacity d mc ms Q (kc - cc) (ks - cs) 8 L (r.toList ++ rest) n' ws') : xX l tX9_capacity d mc ms Q kc ks 5 L (v0 :: .ref b :: rest) n ws := xcallV (t := tX9_capacity) (As := [v0]) rfl mX4_isArc k9_86 (by decide +kernel) rfl rfl hw (by decide) hr hd hkc hks hM k
theorem cX9_capacity_16 {l : Launch} {d mc ms : Nat} {Q : xP} {kc ks n : Nat} {L : xL} {rest : List Value} {ws : xW} {v0 v1 v2 : Value} {dc cc cs : Nat} {Q' : xP} (hd : dc + 1 ≤ d) (hkc : cc ≤ kc) (hks : cs ≤ ks) (hr : (rest.map fun v => v.category).sum ≤ 8) (hM : xM l tX9_isWithin dc cc cs [v0, v1, v2] n ws Q') (k : ∀ r n' ws', Q' r n' ws' → xX l tX9_capacity d mc ms Q (kc - cc) (ks - cs) 19 L (r.toList ++ rest) n' ws') : xX l tX9_capacity d mc ms Q kc ks 16 L (v2 :: v1 :: v0 :: rest) n ws := xcallS (t := tX9_capacity) (As := [v0, v1, v2]) rfl mX9_isWithin k9_75 (by decide +kernel) rfl rfl hr hd hkc hks hM k
def oX9_cost_0 : List xO := [(.aload_n 0, 0, 0), (.getfield 12, 9, 0), (.iload_n 1, 0, 0)]
def oX9_cost_8 : List xO := [(.ifCond .eq 13, 21, 0), (.iload_n 2, 0, 0), (.iconst 0, 0, 0), (.bipush 100, 0, 0)]
def oX9_cost_18 : List xO := [(.ifCond .ne 6, 24, 0)]
def oX9_cost_21 : List xO := [(.bipush (-2), 0, 0), (.ireturn, 0, 0)]
def oX9_cost_24 : List xO := [(.aload_n 0, 0, 0), (.getfield 12, 9, 0), (.getfield 93, 4, 8), (.iload_n 1, 0, 0), (.iaload, 0, 0), (.istore_n 3, 0, 0), (.aload_n 0, 0, 0), (.getfield 12, 9, 0), (.getfield 93, 4, 8), (.iload_n 1, 0, 0), (.iload_n 2, 0, 0), (.iastore, 0, 0), (.aload_n 0, 0, 0), (.getfield 12, 9, 0), (.dup, 0, 0), (.getfield 68, 4, 3), (.iconst 1, 0, 0), (.iadd, 0, 0), (.putfield 68, 4, 3), (.aload_n 0, 0, 0), (.getfield 12, 9, 0), (.dup, 0, 0), (.getfield 96, 4, 4), (.iconst 1, 0, 0), (.iadd, 0, 0), (.putfield 96, 4, 4), (.iload_n 3, 0, 0), (.ireturn, 0, 0)]
def AX9_cost : List (Nat × List xO) := [(0, oX9_cost_0), (8, oX9_cost_8), (18, oX9_cost_18), (21, oX9_cost_21), (24, oX9_cost_24)]
theorem aX9_cost : xTok tX9_cost AX9_cost = true := by decide +kernel
theorem rX9_cost : tX9_cost.2.2.2.2 = (some .int) := rfl
theorem cX9_cost_5 {l : Launch} {d mc ms : Nat} {Q : xP} {kc ks n : Nat} {L : xL} {rest : List Value} {ws : xW} {v0 : Value} {b : Nat} {vs : List Value} (hw : ws b = some (4, .inr (.inr (.inr vs)))) {dc cc cs : Nat} {Q' : xP} (hd : dc + 1 ≤ d) (hkc : cc ≤ kc) (hks : cs ≤ ks) (hr : (rest.map fun v => v.category).sum ≤ 8) (hM : xM l tX4_isArc dc cc cs [.ref b, v0] n ws Q') (k : ∀ r n' ws', Q' r n' ws' → xX l tX9_cost d mc ms Q (kc - cc) (ks - cs) 8 L (r.toList ++ rest) n' ws') : xX l tX9_cost d mc ms Q kc ks 5 L (v0 :: .ref b :: rest) n ws := xcallV (t := tX9_cost) (As := [v0]) rfl mX4_isArc k9_86 (by decide +kernel) rfl rfl hw (by decide) hr hd hkc hks hM k
theorem cX9_cost_15 {l : Launch} {d mc ms : Nat} {Q : xP} {kc ks n : Nat} {L : xL} {rest : List Value} {ws : xW} {v0 v1 v2 : Value} {dc cc cs : Nat} {Q' : xP} (hd : dc + 1 ≤ d) (hkc : cc ≤ kc) (hks : cs ≤ ks) (hr : (rest.map fun v => v.category).sum ≤ 8) (hM : xM l tX9_isWithin dc cc cs [v0, v1, v2] n ws Q') (k : ∀ r n' ws', Q' r n' ws' → xX l tX9_cost d mc ms Q (kc - cc) (ks - cs) 18 L (r.toList ++ rest) n' ws') : xX l tX9_cost d mc ms Q kc ks 15 L (v2 :: v1 :: v0 :: rest) n ws := xcallS (t := tX9_cost) (As := [v0, v1, v2]) rfl mX9_isWithin k9_75 (by decide +kernel) rfl rfl hr hd hkc hks hM k
def oX9_good_0 : List xO := [(.aload_n 0, 0, 0), (.getfield 12, 9, 0), (.iload_n 1, 0, 0), (.iload_n 2, 0, 0)]
def oX9_good_9 : List xO := [(.ifCond .eq 26, 35, 0), (.iload_n 3, 0, 0), (.iconst 1, 0, 0), (.sipush 1000, 0, 0)]
def oX9_good_20 : List xO := [(.ifCond .eq 15, 35, 0), (.iload 4, 0, 0), (.iconst 0, 0, 0), (.sipush 1000, 0, 0)]
def oX9_good_32 : List xO := [(.ifCond .ne 6, 38, 0)]
def oX9_good_35 : List xO := [(.bipush (-2), 0, 0), (.ireturn, 0, 0)]
def oX9_good_38 : List xO := [(.aload_n 0, 0, 0), (.getfield 12, 9, 0), (.getfield 99, 4, 2), (.bipush 6, 0, 0), (.if_icmp .lt 6, 53, 0), (.bipush (-3), 0, 0), (.ireturn, 0, 0)]
def oX9_good_53 : List xO := [(.aload_n 0, 0, 0), (.getfield 12, 9, 0), (.iload_n 1, 0, 0), (.iload_n 2, 0, 0), (.iload_n 3, 0, 0), (.iload 4, 0, 0)]
def oX9_good_65 : List xO := [(.ireturn, 0, 0)]
def AX9_good : List (Nat × List xO) := [(0, oX9_good_0), (9, oX9_good_9), (20, oX9_good_20), (32, oX9_good_32), (35, oX9_good_35), (38, oX9_good_38), (53, oX9_good_53), (65, oX9_good_65)]
theorem aX9_good : xTok tX9_good AX9_good = true := by decide +kernel
theorem rX9_good : tX9_good.2.2.2.2 = (some .int) := rfl
theorem cX9_good_6 {l : Launch} {d mc ms : Nat} {Q : xP} {kc ks n : Nat} {L : xL} {rest : List Value} {ws : xW} {v0 v1 : Value} {b : Nat} {vs : List Value} (hw : ws b = some (4, .inr (.inr (.inr vs)))) {dc cc cs : Nat} {Q' : xP} (hd : dc + 1 ≤ d) (hkc : cc ≤ kc) (hks : cs ≤ ks) (hr : (rest.map fun v => v.category).sum ≤ 8) (hM : xM l tX4_areTwoNodes dc cc cs [.ref b, v0, v1] n ws Q') (k : ∀ r n' ws', Q' r n' ws' → xX l tX9_good d mc ms Q (kc - cc) (ks - cs) 9 L (r.toList ++ rest) n' ws') : xX l tX9_good d mc ms Q kc ks 6 L (v1 :: v0 :: .ref b :: rest) n ws := xcallV (t := tX9_good) (As := [v0, v1]) rfl mX4_areTwoNodes k9_71 (by decide +kernel) rfl rfl hw (by decide) hr hd hkc hks hM k
theorem cX9_good_17 {l : Launch} {d mc ms : Nat} {Q : xP} {kc ks n : Nat} {L : xL} {rest : List Value} {ws : xW} {v0 v1 v2 : Value} {dc cc cs : Nat} {Q' : xP} (hd : dc + 1 ≤ d) (hkc : cc ≤ kc) (hks : cs ≤ ks) (hr : (rest.map fun v => v.category).sum ≤ 8) (hM : xM l tX9_isWithin dc cc cs [v0, v1, v2] n ws Q') (k : ∀ r n' ws', Q' r n' ws' → xX l tX9_good d mc ms Q (kc - cc) (ks - cs) 20 L (r.toList ++ rest) n' ws') : xX l tX9_good d mc ms Q kc ks 17 L (v2 :: v1 :: v0 :: rest) n ws := xcallS (t := tX9_good) (As := [v0, v1, v2]) rfl mX9_isWithin k9_75 (by decide +kernel) rfl rfl hr hd hkc hks hM k
theorem cX9_good_29 {l : Launch} {d mc ms : Nat} {Q : xP} {kc ks n : Nat} {L : xL} {rest : List Value} {ws : xW} {v0 v1 v2 : Value} {dc cc cs : Nat} {Q' : xP} (hd : dc + 1 ≤ d) (hkc : cc ≤ kc) (hks : cs ≤ ks) (hr : (rest.map fun v => v.category).sum ≤ 8) (hM : xM l tX9_isWithin dc cc cs [v0, v1, v2] n ws Q') (k : ∀ r n' ws', Q' r n' ws' → xX l tX9_good d mc ms Q (kc - cc) (ks - cs) 32 L (r.toList ++ rest) n' ws') : xX l tX9_good d mc ms Q kc ks 29 L (v2 :: v1 :: v0 :: rest) n ws := xcallS (t := tX9_good) (As := [v0, v1, v2]) rfl mX9_isWithin k9_75 (by decide +kernel) rfl rfl hr hd hkc hks hM k
theorem cX9_good_62 {l : Launch} {d mc ms : Nat} {Q : xP} {kc ks n : Nat} {L : xL} {rest : List Value} {ws : xW} {v0 v1 v2 v3 : Value} {b : Nat} {vs : List Value} (hw : ws b = some (4, .inr (.inr (.inr vs)))) {dc cc cs : Nat} {Q' : xP} (hd : dc + 1 ≤ d) (hkc : cc ≤ kc) (hks : cs ≤ ks) (hr : (rest.map fun v => v.category).sum ≤ 8) (hM : xM l tX4_addGood dc cc cs [.ref b, v0, v1, v2, v3] n ws Q') (k : ∀ r n' ws', Q' r n' ws' → xX l tX9_good d mc ms Q (kc - cc) (ks - cs) 65 L (r.toList ++ rest) n' ws') : xX l tX9_good d mc ms Q kc ks 62 L (v3 :: v2 :: v1 :: v0 :: .ref b :: rest) n ws := xcallV (t := tX9_good) (As := [v0, v1, v2, v3]) rfl mX4_addGood k9_102 (by decide +kernel) rfl rfl hw (by decide) hr hd hkc hks hM k
def oX9_demand_0 : List xO := [(.aload_n 0, 0, 0), (.getfield 12, 9, 0), (.iload_n 1, 0, 0)]
def oX9_demand_8 : List xO := [(.ifCond .eq 14, 22, 0), (.iload_n 2, 0, 0), (.iconst 1, 0, 0), (.sipush 1000, 0, 0)]
def oX9_demand_19 : List xO := [(.ifCond .ne 6, 25, 0)]
def oX9_demand_22 : List xO := [(.bipush (-2), 0, 0), (.ireturn, 0, 0)]
def oX9_demand_25 : List xO := [(.aload_n 0, 0, 0), (.getfield 12, 9, 0), (.getfield 108, 4, 11), (.iload_n 1, 0, 0), (.iaload, 0, 0), (.istore_n 3, 0, 0), (.aload_n 0, 0, 0), (.getfield 12, 9, 0), (.getfield 108, 4, 11), (.iload_n 1, 0, 0), (.iload_n 2, 0, 0), (.iastore, 0, 0), (.aload_n 0, 0, 0), (.getfield 12, 9, 0), (.dup, 0, 0), (.getfield 68, 4, 3), (.iconst 1, 0, 0), (.iadd, 0, 0), (.putfield 68, 4, 3), (.iload_n 3, 0, 0), (.ireturn, 0, 0)]
def AX9_demand : List (Nat × List xO) := [(0, oX9_demand_0), (8, oX9_demand_8), (19, oX9_demand_19), (22, oX9_demand_22), (25, oX9_demand_25)]
theorem aX9_demand : xTok tX9_demand AX9_demand = true := by decide +kernel
theorem rX9_demand : tX9_demand.2.2.2.2 = (some .int) := rfl
theorem cX9_demand_5 {l : Launch} {d mc ms : Nat} {Q : xP} {kc ks n : Nat} {L : xL} {rest : List Value} {ws : xW} {v0 : Value} {b : Nat} {vs : List Value} (hw : ws b = some (4, .inr (.inr (.inr vs)))) {dc cc cs : Nat} {Q' : xP} (hd : dc + 1 ≤ d) (hkc : cc ≤ kc) (hks : cs ≤ ks) (hr : (rest.map fun v => v.category).sum ≤ 8) (hM : xM l tX4_isGood dc cc cs [.ref b, v0] n ws Q') (k : ∀ r n' ws', Q' r n' ws' → xX l tX9_demand d mc ms Q (kc - cc) (ks - cs) 8 L (r.toList ++ rest) n' ws') : xX l tX9_demand d mc ms Q kc ks 5 L (v0 :: .ref b :: rest) n ws := xcallV (t := tX9_demand) (As := [v0]) rfl mX4_isGood k9_105 (by decide +kernel) rfl rfl hw (by decide) hr hd hkc hks hM k
theorem cX9_demand_16 {l : Launch} {d mc ms : Nat} {Q : xP} {kc ks n : Nat} {L : xL} {rest : List Value} {ws : xW} {v0 v1 v2 : Value} {dc cc cs : Nat} {Q' : xP} (hd : dc + 1 ≤ d) (hkc : cc ≤ kc) (hks : cs ≤ ks) (hr : (rest.map fun v => v.category).sum ≤ 8) (hM : xM l tX9_isWithin dc cc cs [v0, v1, v2] n ws Q') (k : ∀ r n' ws', Q' r n' ws' → xX l tX9_demand d mc ms Q (kc - cc) (ks - cs) 19 L (r.toList ++ rest) n' ws') : xX l tX9_demand d mc ms Q kc ks 16 L (v2 :: v1 :: v0 :: rest) n ws := xcallS (t := tX9_demand) (As := [v0, v1, v2]) rfl mX9_isWithin k9_75 (by decide +kernel) rfl rfl hr hd hkc hks hM k
def oX9_worth_0 : List xO := [(.aload_n 0, 0, 0), (.getfield 12, 9, 0), (.iload_n 1, 0, 0)]
def oX9_worth_8 : List xO := [(.ifCond .eq 14, 22, 0), (.iload_n 2, 0, 0), (.iconst 0, 0, 0), (.sipush 1000, 0, 0)]
def oX9_worth_19 : List xO := [(.ifCond .ne 6, 25, 0)]
def oX9_worth_22 : List xO := [(.bipush (-2), 0, 0), (.ireturn, 0, 0)]
def oX9_worth_25 : List xO := [(.aload_n 0, 0, 0), (.getfield 12, 9, 0), (.getfield 111, 4, 12), (.iload_n 1, 0, 0), (.iaload, 0, 0), (.istore_n 3, 0, 0), (.aload_n 0, 0, 0), (.getfield 12, 9, 0), (.getfield 111, 4, 12), (.iload_n 1, 0, 0), (.iload_n 2, 0, 0), (.iastore, 0, 0), (.aload_n 0, 0, 0), (.getfield 12, 9, 0), (.dup, 0, 0), (.getfield 68, 4, 3), (.iconst 1, 0, 0), (.iadd, 0, 0), (.putfield 68, 4, 3), (.iload_n 3, 0, 0), (.ireturn, 0, 0)]
def AX9_worth : List (Nat × List xO) := [(0, oX9_worth_0), (8, oX9_worth_8), (19, oX9_worth_19), (22, oX9_worth_22), (25, oX9_worth_25)]
theorem aX9_worth : xTok tX9_worth AX9_worth = true := by decide +kernel
theorem rX9_worth : tX9_worth.2.2.2.2 = (some .int) := rfl
theorem cX9_worth_5 {l : Launch} {d mc ms : Nat} {Q : xP} {kc ks n : Nat} {L : xL} {rest : List Value} {ws : xW} {v0 : Value} {b : Nat} {vs : List Value} (hw : ws b = some (4, .inr (.inr (.inr vs)))) {dc cc cs : Nat} {Q' : xP} (hd : dc + 1 ≤ d) (hkc : cc ≤ kc) (hks : cs ≤ ks) (hr : (rest.map fun v => v.category).sum ≤ 8) (hM : xM l tX4_isGood dc cc cs [.ref b, v0] n ws Q') (k : ∀ r n' ws', Q' r n' ws' → xX l tX9_worth d mc ms Q (kc - cc) (ks - cs) 8 L (r.toList ++ rest) n' ws') : xX l tX9_worth d mc ms Q kc ks 5 L (v0 :: .ref b :: rest) n ws := xcallV (t := tX9_worth) (As := [v0]) rfl mX4_isGood k9_105 (by decide +kernel) rfl rfl hw (by decide) hr hd hkc hks hM k
theorem cX9_worth_16 {l : Launch} {d mc ms : Nat} {Q : xP} {kc ks n : Nat} {L : xL} {rest : List Value} {ws : xW} {v0 v1 v2 : Value} {dc cc cs : Nat} {Q' : xP} (hd : dc + 1 ≤ d) (hkc : cc ≤ kc) (hks : cs ≤ ks) (hr : (rest.map fun v => v.category).sum ≤ 8) (hM : xM l tX9_isWithin dc cc cs [v0, v1, v2] n ws Q') (k : ∀ r n' ws', Q' r n' ws' → xX l tX9_worth d mc ms Q (kc - cc) (ks - cs) 19 L (r.toList ++ rest) n' ws') : xX l tX9_worth d mc ms Q kc ks 16 L (v2 :: v1 :: v0 :: rest) n ws := xcallS (t := tX9_worth) (As := [v0, v1, v2]) rfl mX9_isWithin k9_75 (by decide +kernel) rfl rfl hr hd hkc hks hM k
def oX9_ways_0 : List xO := [(.aload_n 0, 0, 0), (.getfield 12, 9, 0), (.iload_n 1, 0, 0)]
def oX9_ways_8 : List xO := [(.ifCond .ne 6, 14, 0), (.bipush (-2), 0, 0), (.ireturn, 0, 0)]
def oX9_ways_14 : List xO := [(.aload_n 0, 0, 0), (.getfield 19, 9, 1), (.aload_n 0, 0, 0), (.getfield 12, 9, 0)]
def oX9_ways_25 : List xO := [(.aload_n 0, 0, 0), (.getfield 19, 9, 1), (.getfield 118, 8, 0), (.iload_n 1, 0, 0), (.aaload, 0, 0), (.getfield 122, 7, 0), (.ireturn, 0, 0)]
def AX9_ways : List (Nat × List xO) := [(0, oX9_ways_0), (8, oX9_ways_8), (14, oX9_ways_14), (25, oX9_ways_25)]
theorem aX9_ways : xTok tX9_ways AX9_ways = true := by decide +kernel
theorem rX9_ways : tX9_ways.2.2.2.2 = (some .int) := rfl
theorem cX9_ways_5 {l : Launch} {d mc ms : Nat} {Q : xP} {kc ks n : Nat} {L : xL} {rest : List Value} {ws : xW} {v0 : Value} {b : Nat} {vs : List Value} (hw : ws b = some (4, .inr (.inr (.inr vs)))) {dc cc cs : Nat} {Q' : xP} (hd : dc + 1 ≤ d) (hkc : cc ≤ kc) (hks : cs ≤ ks) (hr : (rest.map fun v => v.category).sum ≤ 8) (hM : xM l tX4_isGood dc cc cs [.ref b, v0] n ws Q') (k : ∀ r n' ws', Q' r n' ws' → xX l tX9_ways d mc ms Q (kc - cc) (ks - cs) 8 L (r.toList ++ rest) n' ws') : xX l tX9_ways d mc ms Q kc ks 5 L (v0 :: .ref b :: rest) n ws := xcallV (t := tX9_ways) (As := [v0]) rfl mX4_isGood k9_105 (by decide +kernel) rfl rfl hw (by decide) hr hd hkc hks hM k
theorem cX9_ways_22 {l : Launch} {d mc ms : Nat} {Q : xP} {kc ks n : Nat} {L : xL} {rest : List Value} {ws : xW} {v0 : Value} {b : Nat} {vs : List Value} (hw : ws b = some (8, .inr (.inr (.inr vs)))) {dc cc cs : Nat} {Q' : xP} (hd : dc + 1 ≤ d) (hkc : cc ≤ kc) (hks : cs ≤ ks) (hr : (rest.map fun v => v.category).sum ≤ 8) (hM : xM l tX8_refresh dc cc cs [.ref b, v0] n ws Q') (k : ∀ r n' ws', Q' r n' ws' → xX l tX9_ways d mc ms Q (kc - cc) (ks - cs) 25 L (r.toList ++ rest) n' ws') : xX l tX9_ways d mc ms Q kc ks 22 L (v0 :: .ref b :: rest) n ws := xcallV (t := tX9_ways) (As := [v0]) rfl mX8_refresh k9_114 (by decide +kernel) rfl rfl hw (by decide) hr hd hkc hks hM k
def oX9_way_0 : List xO := [(.aload_n 0, 0, 0), (.getfield 12, 9, 0), (.iload_n 1, 0, 0)]
def oX9_way_8 : List xO := [(.ifCond .ne 6, 14, 0), (.bipush (-2), 0, 0), (.ireturn, 0, 0)]
def oX9_way_14 : List xO := [(.aload_n 0, 0, 0), (.getfield 19, 9, 1), (.aload_n 0, 0, 0), (.getfield 12, 9, 0)]
def oX9_way_25 : List xO := [(.aload_n 0, 0, 0), (.getfield 19, 9, 1), (.getfield 118, 8, 0), (.iload_n 1, 0, 0), (.aaload, 0, 0), (.astore 4, 0, 0), (.aload 4, 0, 0), (.iload_n 2, 0, 0)]
def oX9_way_42 : List xO := [(.ifCond .ne 6, 48, 0), (.bipush (-2), 0, 0), (.ireturn, 0, 0)]
def oX9_way_48 : List xO := [(.aload 4, 0, 0), (.getfield 130, 7, 1), (.iload_n 2, 0, 0), (.aaload, 0, 0), (.astore 5, 0, 0), (.iload_n 3, 0, 0), (.iconst (-1), 0, 0), (.if_icmp .ne 9, 68, 0), (.aload 5, 0, 0), (.getfield 134, 6, 0), (.ireturn, 0, 0)]
def oX9_way_68 : List xO := [(.iload_n 3, 0, 0), (.bipush (-2), 0, 0), (.if_icmp .ne 9, 80, 0), (.aload 5, 0, 0), (.getfield 139, 6, 1), (.ireturn, 0, 0)]
def oX9_way_80 : List xO := [(.iload_n 3, 0, 0), (.iconst 0, 0, 0), (.aload 5, 0, 0), (.getfield 134, 6, 0), (.iconst 1, 0, 0), (.isub, 0, 0)]
def oX9_way_92 : List xO := [(.ifCond .eq 13, 105, 0), (.aload 5, 0, 0), (.getfield 142, 6, 2), (.iload_n 3, 0, 0), (.iaload, 0, 0), (.goto 5, 107, 0)]
def oX9_way_105 : List xO := [(.bipush (-2), 0, 0)]
def oX9_way_107 : List xO := [(.ireturn, 0, 0)]
def AX9_way : List (Nat × List xO) := [(0, oX9_way_0), (8, oX9_way_8), (14, oX9_way_14), (25, oX9_way_25), (42, oX9_way_42), (48, oX9_way_48), (68, oX9_way_68), (80, oX9_way_80), (92, oX9_way_92), (105, oX9_way_105), (107, oX9_way_107)]
theorem aX9_way : xTok tX9_way AX9_way = true := by decide +kernel
theorem rX9_way : tX9_way.2.2.2.2 = (some .int) := rfl
theorem cX9_way_5 {l : Launch} {d mc ms : Nat} {Q : xP} {kc ks n : Nat} {L : xL} {rest : List Value} {ws : xW} {v0 : Value} {b : Nat} {vs : List Value} (hw : ws b = some (4, .inr (.inr (.inr vs)))) {dc cc cs : Nat} {Q' : xP} (hd : dc + 1 ≤ d) (hkc : cc ≤ kc) (hks : cs ≤ ks) (hr : (rest.map fun v => v.category).sum ≤ 8) (hM : xM l tX4_isGood dc cc cs [.ref b, v0] n ws Q') (k : ∀ r n' ws', Q' r n' ws' → xX l tX9_way d mc ms Q (kc - cc) (ks - cs) 8 L (r.toList ++ rest) n' ws') : xX l tX9_way d mc ms Q kc ks 5 L (v0 :: .ref b :: rest) n ws := xcallV (t := tX9_way) (As := [v0]) rfl mX4_isGood k9_105 (by decide +kernel) rfl rfl hw (by decide) hr hd hkc hks hM k
theorem cX9_way_22 {l : Launch} {d mc ms : Nat} {Q : xP} {kc ks n : Nat} {L : xL} {rest : List Value} {ws : xW} {v0 : Value} {b : Nat} {vs : List Value} (hw : ws b = some (8, .inr (.inr (.inr vs)))) {dc cc cs : Nat} {Q' : xP} (hd : dc + 1 ≤ d) (hkc : cc ≤ kc) (hks : cs ≤ ks) (hr : (rest.map fun v => v.category).sum ≤ 8) (hM : xM l tX8_refresh dc cc cs [.ref b, v0] n ws Q') (k : ∀ r n' ws', Q' r n' ws' → xX l tX9_way d mc ms Q (kc - cc) (ks - cs) 25 L (r.toList ++ rest) n' ws') : xX l tX9_way d mc ms Q kc ks 22 L (v0 :: .ref b :: rest) n ws := xcallV (t := tX9_way) (As := [v0]) rfl mX8_refresh k9_114 (by decide +kernel) rfl rfl hw (by decide) hr hd hkc hks hM k
theorem cX9_way_39 {l : Launch} {d mc ms : Nat} {Q : xP} {kc ks n : Nat} {L : xL} {rest : List Value} {ws : xW} {v0 : Value} {b : Nat} {vs : List Value} (hw : ws b = some (7, .inr (.inr (.inr vs)))) {dc cc cs : Nat} {Q' : xP} (hd : dc + 1 ≤ d) (hkc : cc ≤ kc) (hks : cs ≤ ks) (hr : (rest.map fun v => v.category).sum ≤ 8) (hM : xM l tX7_has dc cc cs [.ref b, v0] n ws Q') (k : ∀ r n' ws', Q' r n' ws' → xX l tX9_way d mc ms Q (kc - cc) (ks - cs) 42 L (r.toList ++ rest) n' ws') : xX l tX9_way d mc ms Q kc ks 39 L (v0 :: .ref b :: rest) n ws := xcallV (t := tX9_way) (As := [v0]) rfl mX7_has k9_127 (by decide +kernel) rfl rfl hw (by decide) hr hd hkc hks hM k
theorem cX9_way_89 {l : Launch} {d mc ms : Nat} {Q : xP} {kc ks n : Nat} {L : xL} {rest : List Value} {ws : xW} {v0 v1 v2 : Value} {dc cc cs : Nat} {Q' : xP} (hd : dc + 1 ≤ d) (hkc : cc ≤ kc) (hks : cs ≤ ks) (hr : (rest.map fun v => v.category).sum ≤ 8) (hM : xM l tX9_isWithin dc cc cs [v0, v1, v2] n ws Q') (k : ∀ r n' ws', Q' r n' ws' → xX l tX9_way d mc ms Q (kc - cc) (ks - cs) 92 L (r.toList ++ rest) n' ws') : xX l tX9_way d mc ms Q kc ks 89 L (v2 :: v1 :: v0 :: rest) n ws := xcallS (t := tX9_way) (As := [v0, v1, v2]) rfl mX9_isWithin k9_75 (by decide +kernel) rfl rfl hr hd hkc hks hM k
def oX9_best_0 : List xO := [(.aload_n 0, 0, 0)]
def oX9_best_4 : List xO := [(.aload_n 0, 0, 0), (.getfield 26, 9, 2), (.getfield 147, 5, 1), (.ireturn, 0, 0)]
def AX9_best : List (Nat × List xO) := [(0, oX9_best_0), (4, oX9_best_4)]
theorem aX9_best : xTok tX9_best AX9_best = true := by decide +kernel
theorem rX9_best : tX9_best.2.2.2.2 = (some .int) := rfl
theorem cX9_best_1 {l : Launch} {d mc ms : Nat} {Q : xP} {kc ks n : Nat} {L : xL} {rest : List Value} {ws : xW} {b : Nat} {vs : List Value} (hw : ws b = some (9, .inr (.inr (.inr vs)))) {dc cc cs : Nat} {Q' : xP} (hd : dc + 1 ≤ d) (hkc : cc ≤ kc) (hks : cs ≤ ks) (hr : (rest.map fun v => v.category).sum ≤ 8) (hM : xM l tX9_refreshPlan dc cc cs [.ref b] n ws Q') (k : ∀ r n' ws', Q' r n' ws' → xX l tX9_best d mc ms Q (kc - cc) (ks - cs) 4 L (r.toList ++ rest) n' ws') : xX l tX9_best d mc ms Q kc ks 1 L (.ref b :: rest) n ws := xcallV (t := tX9_best) (As := []) rfl mX9_refreshPlan k9_144 (by decide +kernel) rfl rfl hw (by decide) hr hd hkc hks hM k
def oX9_spent_0 : List xO := [(.aload_n 0, 0, 0)]
def oX9_spent_4 : List xO := [(.aload_n 0, 0, 0), (.getfield 26, 9, 2), (.getfield 150, 5, 2), (.ireturn, 0, 0)]
def AX9_spent : List (Nat × List xO) := [(0, oX9_spent_0), (4, oX9_spent_4)]
theorem aX9_spent : xTok tX9_spent AX9_spent = true := by decide +kernel
theorem rX9_spent : tX9_spent.2.2.2.2 = (some .int) := rfl
theorem cX9_spent_1 {l : Launch} {d mc ms : Nat} {Q : xP} {kc ks n : Nat} {L : xL} {rest : List Value} {ws : xW} {b : Nat} {vs : List Value} (hw : ws b = some (9, .inr (.inr (.inr vs)))) {dc cc cs : Nat} {Q' : xP} (hd : dc + 1 ≤ d) (hkc : cc ≤ kc) (hks : cs ≤ ks) (hr : (rest.map fun v => v.category).sum ≤ 8) (hM : xM l tX9_refreshPlan dc cc cs [.ref b] n ws Q') (k : ∀ r n' ws', Q' r n' ws' → xX l tX9_spent d mc ms Q (kc - cc) (ks - cs) 4 L (r.toList ++ rest) n' ws') : xX l tX9_spent d mc ms Q kc ks 1 L (.ref b :: rest) n ws := xcallV (t := tX9_spent) (As := []) rfl mX9_refreshPlan k9_144 (by decide +kernel) rfl rfl hw (by decide) hr hd hkc hks hM k
def oX9_plan_0 : List xO := [(.aload_n 0, 0, 0), (.getfield 12, 9, 0), (.iload_n 1, 0, 0)]
def oX9_plan_8 : List xO := [(.ifCond .ne 6, 14, 0), (.bipush (-2), 0, 0), (.ireturn, 0, 0)]
def oX9_plan_14 : List xO := [(.aload_n 0, 0, 0)]
def oX9_plan_18 : List xO := [(.aload_n 0, 0, 0), (.getfield 26, 9, 2), (.getfield 153, 5, 0), (.iload_n 1, 0, 0), (.iaload, 0, 0), (.ireturn, 0, 0)]
def AX9_plan : List (Nat × List xO) := [(0, oX9_plan_0), (8, oX9_plan_8), (14, oX9_plan_14), (18, oX9_plan_18)]
theorem aX9_plan : xTok tX9_plan AX9_plan = true := by decide +kernel
theorem rX9_plan : tX9_plan.2.2.2.2 = (some .int) := rfl
theorem cX9_plan_5 {l : Launch} {d mc ms : Nat} {Q : xP} {kc ks n : Nat} {L : xL} {rest : List Value} {ws : xW} {v0 : Value} {b : Nat} {vs : List Value} (hw : ws b = some (4, .inr (.inr (.inr vs)))) {dc cc cs : Nat} {Q' : xP} (hd : dc + 1 ≤ d) (hkc : cc ≤ kc) (hks : cs ≤ ks) (hr : (rest.map fun v => v.category).sum ≤ 8) (hM : xM l tX4_isGood dc cc cs [.ref b, v0] n ws Q') (k : ∀ r n' ws', Q' r n' ws' → xX l tX9_plan d mc ms Q (kc - cc) (ks - cs) 8 L (r.toList ++ rest) n' ws') : xX l tX9_plan d mc ms Q kc ks 5 L (v0 :: .ref b :: rest) n ws := xcallV (t := tX9_plan) (As := [v0]) rfl mX4_isGood k9_105 (by decide +kernel) rfl rfl hw (by decide) hr hd hkc hks hM k
theorem cX9_plan_15 {l : Launch} {d mc ms : Nat} {Q : xP} {kc ks n : Nat} {L : xL} {rest : List Value} {ws : xW} {b : Nat} {vs : List Value} (hw : ws b = some (9, .inr (.inr (.inr vs)))) {dc cc cs : Nat} {Q' : xP} (hd : dc + 1 ≤ d) (hkc : cc ≤ kc) (hks : cs ≤ ks) (hr : (rest.map fun v => v.category).sum ≤ 8) (hM : xM l tX9_refreshPlan dc cc cs [.ref b] n ws Q') (k : ∀ r n' ws', Q' r n' ws' → xX l tX9_plan d mc ms Q (kc - cc) (ks - cs) 18 L (r.toList ++ rest) n' ws') : xX l tX9_plan d mc ms Q kc ks 15 L (.ref b :: rest) n ws := xcallV (t := tX9_plan) (As := []) rfl mX9_refreshPlan k9_144 (by decide +kernel) rfl rfl hw (by decide) hr hd hkc hks hM k
def oX9_load_0 : List xO := [(.aload_n 0, 0, 0), (.getfield 12, 9, 0), (.iload_n 1, 0, 0)]
def oX9_load_8 : List xO := [(.ifCond .ne 6, 14, 0), (.bipush (-2), 0, 0), (.ireturn, 0, 0)]
def oX9_load_14 : List xO := [(.aload_n 0, 0, 0)]
def oX9_load_18 : List xO := [(.aload_n 0, 0, 0), (.getfield 36, 9, 4), (.getfield 156, 3, 0), (.iload_n 1, 0, 0), (.iaload, 0, 0), (.ireturn, 0, 0)]
def AX9_load : List (Nat × List xO) := [(0, oX9_load_0), (8, oX9_load_8), (14, oX9_load_14), (18, oX9_load_18)]
theorem aX9_load : xTok tX9_load AX9_load = true := by decide +kernel
theorem rX9_load : tX9_load.2.2.2.2 = (some .int) := rfl
theorem cX9_load_5 {l : Launch} {d mc ms : Nat} {Q : xP} {kc ks n : Nat} {L : xL} {rest : List Value} {ws : xW} {v0 : Value} {b : Nat} {vs : List Value} (hw : ws b = some (4, .inr (.inr (.inr vs)))) {dc cc cs : Nat} {Q' : xP} (hd : dc + 1 ≤ d) (hkc : cc ≤ kc) (hks : cs ≤ ks) (hr : (rest.map fun v => v.category).sum ≤ 8) (hM : xM l tX4_isArc dc cc cs [.ref b, v0] n ws Q') (k : ∀ r n' ws', Q' r n' ws' → xX l tX9_load d mc ms Q (kc - cc) (ks - cs) 8 L (r.toList ++ rest) n' ws') : xX l tX9_load d mc ms Q kc ks 5 L (v0 :: .ref b :: rest) n ws := xcallV (t := tX9_load) (As := [v0]) rfl mX4_isArc k9_86 (by decide +kernel) rfl rfl hw (by decide) hr hd hkc hks hM k
theorem cX9_load_15 {l : Launch} {d mc ms : Nat} {Q : xP} {kc ks n : Nat} {L : xL} {rest : List Value} {ws : xW} {b : Nat} {vs : List Value} (hw : ws b = some (9, .inr (.inr (.inr vs)))) {dc cc cs : Nat} {Q' : xP} (hd : dc + 1 ≤ d) (hkc : cc ≤ kc) (hks : cs ≤ ks) (hr : (rest.map fun v => v.category).sum ≤ 8) (hM : xM l tX9_refreshPlan dc cc cs [.ref b] n ws Q') (k : ∀ r n' ws', Q' r n' ws' → xX l tX9_load d mc ms Q (kc - cc) (ks - cs) 18 L (r.toList ++ rest) n' ws') : xX l tX9_load d mc ms Q kc ks 15 L (.ref b :: rest) n ws := xcallV (t := tX9_load) (As := []) rfl mX9_refreshPlan k9_144 (by decide +kernel) rfl rfl hw (by decide) hr hd hkc hks hM k
def oX9_price_0 : List xO := [(.aload_n 0, 0, 0), (.getfield 12, 9, 0), (.iload_n 1, 0, 0)]
def oX9_price_8 : List xO := [(.ifCond .eq 14, 22, 0), (.iload_n 2, 0, 0), (.iconst 1, 0, 0), (.sipush 1000, 0, 0)]
def oX9_price_19 : List xO := [(.ifCond .ne 6, 25, 0)]
def oX9_price_22 : List xO := [(.bipush (-2), 0, 0), (.ireturn, 0, 0)]
def oX9_price_25 : List xO := [(.aload_n 0, 0, 0)]
def oX9_price_29 : List xO := [(.aload_n 0, 0, 0), (.getfield 30, 9, 3), (.aload_n 0, 0, 0), (.getfield 12, 9, 0), (.aload_n 0, 0, 0), (.getfield 19, 9, 1), (.iload_n 1, 0, 0), (.iload_n 2, 0, 0), (.aload_n 0, 0, 0), (.getfield 26, 9, 2), (.getfield 147, 5, 1)]
def oX9_price_53 : List xO := [(.aload_n 0, 0, 0), (.getfield 26, 9, 2), (.getfield 147, 5, 1), (.isub, 0, 0), (.ireturn, 0, 0)]
def AX9_price : List (Nat × List xO) := [(0, oX9_price_0), (8, oX9_price_8), (19, oX9_price_19), (22, oX9_price_22), (25, oX9_price_25), (29, oX9_price_29), (53, oX9_price_53)]
theorem aX9_price : xTok tX9_price AX9_price = true := by decide +kernel
theorem rX9_price : tX9_price.2.2.2.2 = (some .int) := rfl
theorem cX9_price_5 {l : Launch} {d mc ms : Nat} {Q : xP} {kc ks n : Nat} {L : xL} {rest : List Value} {ws : xW} {v0 : Value} {b : Nat} {vs : List Value} (hw : ws b = some (4, .inr (.inr (.inr vs)))) {dc cc cs : Nat} {Q' : xP} (hd : dc + 1 ≤ d) (hkc : cc ≤ kc) (hks : cs ≤ ks) (hr : (rest.map fun v => v.category).sum ≤ 8) (hM : xM l tX4_isArc dc cc cs [.ref b, v0] n ws Q') (k : ∀ r n' ws', Q' r n' ws' → xX l tX9_price d mc ms Q (kc - cc) (ks - cs) 8 L (r.toList ++ rest) n' ws') : xX l tX9_price d mc ms Q kc ks 5 L (v0 :: .ref b :: rest) n ws := xcallV (t := tX9_price) (As := [v0]) rfl mX4_isArc k9_86 (by decide +kernel) rfl rfl hw (by decide) hr hd hkc hks hM k
theorem cX9_price_16 {l : Launch} {d mc ms : Nat} {Q : xP} {kc ks n : Nat} {L : xL} {rest : List Value} {ws : xW} {v0 v1 v2 : Value} {dc cc cs : Nat} {Q' : xP} (hd : dc + 1 ≤ d) (hkc : cc ≤ kc) (hks : cs ≤ ks) (hr : (rest.map fun v => v.category).sum ≤ 8) (hM : xM l tX9_isWithin dc cc cs [v0, v1, v2] n ws Q') (k : ∀ r n' ws', Q' r n' ws' → xX l tX9_price d mc ms Q (kc - cc) (ks - cs) 19 L (r.toList ++ rest) n' ws') : xX l tX9_price d mc ms Q kc ks 16 L (v2 :: v1 :: v0 :: rest) n ws := xcallS (t := tX9_price) (As := [v0, v1, v2]) rfl mX9_isWithin k9_75 (by decide +kernel) rfl rfl hr hd hkc hks hM k
theorem cX9_price_26 {l : Launch} {d mc ms : Nat} {Q : xP} {kc ks n : Nat} {L : xL} {rest : List Value} {ws : xW} {b : Nat} {vs : List Value} (hw : ws b = some (9, .inr (.inr (.inr vs)))) {dc cc cs : Nat} {Q' : xP} (hd : dc + 1 ≤ d) (hkc : cc ≤ kc) (hks : cs ≤ ks) (hr : (rest.map fun v => v.category).sum ≤ 8) (hM : xM l tX9_refreshPlan dc cc cs [.ref b] n ws Q') (k : ∀ r n' ws', Q' r n' ws' → xX l tX9_price d mc ms Q (kc - cc) (ks - cs) 29 L (r.toList ++ rest) n' ws') : xX l tX9_price d mc ms Q kc ks 26 L (.ref b :: rest) n ws := xcallV (t := tX9_price) (As := []) rfl mX9_refreshPlan k9_144 (by decide +kernel) rfl rfl hw (by decide) hr hd hkc hks hM k
theorem cX9_price_50 {l : Launch} {d mc ms : Nat} {Q : xP} {kc ks n : Nat} {L : xL} {rest : List Value} {ws : xW} {v0 v1 v2 v3 v4 : Value} {b : Nat} {vs : List Value} (hw : ws b = some (5, .inr (.inr (.inr vs)))) {dc cc cs : Nat} {Q' : xP} (hd : dc + 1 ≤ d) (hkc : cc ≤ kc) (hks : cs ≤ ks) (hr : (rest.map fun v => v.category).sum ≤ 8) (hM : xM l tX5_mostWorthWithWider dc cc cs [.ref b, v0, v1, v2, v3, v4] n ws Q') (k : ∀ r n' ws', Q' r n' ws' → xX l tX9_price d mc ms Q (kc - cc) (ks - cs) 53 L (r.toList ++ rest) n' ws') : xX l tX9_price d mc ms Q kc ks 50 L (v4 :: v3 :: v2 :: v1 :: v0 :: .ref b :: rest) n ws := xcallV (t := tX9_price) (As := [v0, v1, v2, v3, v4]) rfl mX5_mostWorthWithWider k9_159 (by decide +kernel) rfl rfl hw (by decide) hr hd hkc hks hM k
def oX9_attempt_0 : List xO := [(.aload_n 0, 0, 0), (.getfield 12, 9, 0), (.iload_n 1, 0, 0)]
def oX9_attempt_8 : List xO := [(.ifCond .eq 12, 20, 0), (.iload_n 2, 0, 0), (.iconst (-1), 0, 0), (.iconst 4, 0, 0)]
def oX9_attempt_17 : List xO := [(.ifCond .ne 6, 23, 0)]
def oX9_attempt_20 : List xO := [(.bipush (-2), 0, 0), (.ireturn, 0, 0)]
def oX9_attempt_23 : List xO := [(.aload_n 0, 0, 0), (.getfield 43, 9, 6), (.iload_n 1, 0, 0), (.iaload, 0, 0), (.istore_n 3, 0, 0), (.aload_n 0, 0, 0), (.getfield 43, 9, 6), (.iload_n 1, 0, 0), (.iload_n 2, 0, 0), (.iastore, 0, 0), (.iload_n 3, 0, 0), (.ireturn, 0, 0)]
def AX9_attempt : List (Nat × List xO) := [(0, oX9_attempt_0), (8, oX9_attempt_8), (17, oX9_attempt_17), (20, oX9_attempt_20), (23, oX9_attempt_23)]
theorem aX9_attempt : xTok tX9_attempt AX9_attempt = true := by decide +kernel
theorem rX9_attempt : tX9_attempt.2.2.2.2 = (some .int) := rfl
theorem cX9_attempt_5 {l : Launch} {d mc ms : Nat} {Q : xP} {kc ks n : Nat} {L : xL} {rest : List Value} {ws : xW} {v0 : Value} {b : Nat} {vs : List Value} (hw : ws b = some (4, .inr (.inr (.inr vs)))) {dc cc cs : Nat} {Q' : xP} (hd : dc + 1 ≤ d) (hkc : cc ≤ kc) (hks : cs ≤ ks) (hr : (rest.map fun v => v.category).sum ≤ 8) (hM : xM l tX4_isGood dc cc cs [.ref b, v0] n ws Q') (k : ∀ r n' ws', Q' r n' ws' → xX l tX9_attempt d mc ms Q (kc - cc) (ks - cs) 8 L (r.toList ++ rest) n' ws') : xX l tX9_attempt d mc ms Q kc ks 5 L (v0 :: .ref b :: rest) n ws := xcallV (t := tX9_attempt) (As := [v0]) rfl mX4_isGood k9_105 (by decide +kernel) rfl rfl hw (by decide) hr hd hkc hks hM k
theorem cX9_attempt_14 {l : Launch} {d mc ms : Nat} {Q : xP} {kc ks n : Nat} {L : xL} {rest : List Value} {ws : xW} {v0 v1 v2 : Value} {dc cc cs : Nat} {Q' : xP} (hd : dc + 1 ≤ d) (hkc : cc ≤ kc) (hks : cs ≤ ks) (hr : (rest.map fun v => v.category).sum ≤ 8) (hM : xM l tX9_isWithin dc cc cs [v0, v1, v2] n ws Q') (k : ∀ r n' ws', Q' r n' ws' → xX l tX9_attempt d mc ms Q (kc - cc) (ks - cs) 17 L (r.toList ++ rest) n' ws') : xX l tX9_attempt d mc ms Q kc ks 14 L (v2 :: v1 :: v0 :: rest) n ws := xcallS (t := tX9_attempt) (As := [v0, v1, v2]) rfl mX9_isWithin k9_75 (by decide +kernel) rfl rfl hr hd hkc hks hM k
def oX9_attempted_0 : List xO := [(.iload_n 1, 0, 0), (.iconst 0, 0, 0), (.iconst 2, 0, 0)]
def oX9_attempted_6 : List xO := [(.ifCond .ne 6, 12, 0), (.bipush (-2), 0, 0), (.ireturn, 0, 0)]
def oX9_attempted_12 : List xO := [(.aload_n 0, 0, 0), (.getfield 19, 9, 1), (.aload_n 0, 0, 0), (.getfield 12, 9, 0)]
def oX9_attempted_23 : List xO := [(.aload_n 0, 0, 0)]
def oX9_attempted_27 : List xO := [(.ifCond .ne 5, 32, 0), (.iconst (-1), 0, 0), (.ireturn, 0, 0)]
def oX9_attempted_32 : List xO := [(.iload_n 1, 0, 0), (.ifCond .ne 8, 41, 0), (.aload_n 0, 0, 0)]
def oX9_attempted_40 : List xO := [(.ireturn, 0, 0)]
def oX9_attempted_41 : List xO := [(.iload_n 1, 0, 0), (.iconst 1, 0, 0), (.if_icmp .ne 8, 51, 0), (.aload_n 0, 0, 0)]
def oX9_attempted_50 : List xO := [(.ireturn, 0, 0)]
def oX9_attempted_51 : List xO := [(.aload_n 0, 0, 0), (.getfield 40, 9, 5), (.aload_n 0, 0, 0), (.getfield 12, 9, 0), (.aload_n 0, 0, 0), (.getfield 19, 9, 1), (.aload_n 0, 0, 0), (.getfield 43, 9, 6)]
def oX9_attempted_70 : List xO := [(.aload_n 0, 0, 0), (.getfield 40, 9, 5), (.aload_n 0, 0, 0), (.getfield 12, 9, 0), (.getfield 90, 4, 7), (.aload_n 0, 0, 0), (.getfield 12, 9, 0), (.getfield 79, 4, 1)]
def oX9_attempted_91 : List xO := [(.ireturn, 0, 0)]
def AX9_attempted : List (Nat × List xO) := [(0, oX9_attempted_0), (6, oX9_attempted_6), (12, oX9_attempted_12), (23, oX9_attempted_23), (27, oX9_attempted_27), (32, oX9_attempted_32), (40, oX9_attempted_40), (41, oX9_attempted_41), (50, oX9_attempted_50), (51, oX9_attempted_51), (70, oX9_attempted_70), (91, oX9_attempted_91)]
theorem aX9_attempted : xTok tX9_attempted AX9_attempted = true := by decide +kernel
theorem rX9_attempted : tX9_attempted.2.2.2.2 = (some .int) := rfl
theorem cX9_attempted_3 {l : Launch} {d mc ms : Nat} {Q : xP} {kc ks n : Nat} {L : xL} {rest : List Value} {ws : xW} {v0 v1 v2 : Value} {dc cc cs : Nat} {Q' : xP} (hd : dc + 1 ≤ d) (hkc : cc ≤ kc) (hks : cs ≤ ks) (hr : (rest.map fun v => v.category).sum ≤ 8) (hM : xM l tX9_isWithin dc cc cs [v0, v1, v2] n ws Q') (k : ∀ r n' ws', Q' r n' ws' → xX l tX9_attempted d mc ms Q (kc - cc) (ks - cs) 6 L (r.toList ++ rest) n' ws') : xX l tX9_attempted d mc ms Q kc ks 3 L (v2 :: v1 :: v0 :: rest) n ws := xcallS (t := tX9_attempted) (As := [v0, v1, v2]) rfl mX9_isWithin k9_75 (by decide +kernel) rfl rfl hr hd hkc hks hM k
theorem cX9_attempted_20 {l : Launch} {d mc ms : Nat} {Q : xP} {kc ks n : Nat} {L : xL} {rest : List Value} {ws : xW} {v0 : Value} {b : Nat} {vs : List Value} (hw : ws b = some (8, .inr (.inr (.inr vs)))) {dc cc cs : Nat} {Q' : xP} (hd : dc + 1 ≤ d) (hkc : cc ≤ kc) (hks : cs ≤ ks) (hr : (rest.map fun v => v.category).sum ≤ 8) (hM : xM l tX8_refresh dc cc cs [.ref b, v0] n ws Q') (k : ∀ r n' ws', Q' r n' ws' → xX l tX9_attempted d mc ms Q (kc - cc) (ks - cs) 23 L (r.toList ++ rest) n' ws') : xX l tX9_attempted d mc ms Q kc ks 20 L (v0 :: .ref b :: rest) n ws := xcallV (t := tX9_attempted) (As := [v0]) rfl mX8_refresh k9_114 (by decide +kernel) rfl rfl hw (by decide) hr hd hkc hks hM k
theorem cX9_attempted_24 {l : Launch} {d mc ms : Nat} {Q : xP} {kc ks n : Nat} {L : xL} {rest : List Value} {ws : xW} {b : Nat} {vs : List Value} (hw : ws b = some (9, .inr (.inr (.inr vs)))) {dc cc cs : Nat} {Q' : xP} (hd : dc + 1 ≤ d) (hkc : cc ≤ kc) (hks : cs ≤ ks) (hr : (rest.map fun v => v.category).sum ≤ 8) (hM : xM l tX9_areTriedThere dc cc cs [.ref b] n ws Q') (k : ∀ r n' ws', Q' r n' ws' → xX l tX9_attempted d mc ms Q (kc - cc) (ks - cs) 27 L (r.toList ++ rest) n' ws') : xX l tX9_attempted d mc ms Q kc ks 24 L (.ref b :: rest) n ws := xcallV (t := tX9_attempted) (As := []) rfl mX9_areTriedThere k9_163 (by decide +kernel) rfl rfl hw (by decide) hr hd hkc hks hM k
theorem cX9_attempted_37 {l : Launch} {d mc ms : Nat} {Q : xP} {kc ks n : Nat} {L : xL} {rest : List Value} {ws : xW} {b : Nat} {vs : List Value} (hw : ws b = some (9, .inr (.inr (.inr vs)))) {dc cc cs : Nat} {Q' : xP} (hd : dc + 1 ≤ d) (hkc : cc ≤ kc) (hks : cs ≤ ks) (hr : (rest.map fun v => v.category).sum ≤ 8) (hM : xM l tX9_triedWorth dc cc cs [.ref b] n ws Q') (k : ∀ r n' ws', Q' r n' ws' → xX l tX9_attempted d mc ms Q (kc - cc) (ks - cs) 40 L (r.toList ++ rest) n' ws') : xX l tX9_attempted d mc ms Q kc ks 37 L (.ref b :: rest) n ws := xcallV (t := tX9_attempted) (As := []) rfl mX9_triedWorth k9_167 (by decide +kernel) rfl rfl hw (by decide) hr hd hkc hks hM k
theorem cX9_attempted_47 {l : Launch} {d mc ms : Nat} {Q : xP} {kc ks n : Nat} {L : xL} {rest : List Value} {ws : xW} {b : Nat} {vs : List Value} (hw : ws b = some (9, .inr (.inr (.inr vs)))) {dc cc cs : Nat} {Q' : xP} (hd : dc + 1 ≤ d) (hkc : cc ≤ kc) (hks : cs ≤ ks) (hr : (rest.map fun v => v.category).sum ≤ 8) (hM : xM l tX9_triedCost dc cc cs [.ref b] n ws Q') (k : ∀ r n' ws', Q' r n' ws' → xX l tX9_attempted d mc ms Q (kc - cc) (ks - cs) 50 L (r.toList ++ rest) n' ws') : xX l tX9_attempted d mc ms Q kc ks 47 L (.ref b :: rest) n ws := xcallV (t := tX9_attempted) (As := []) rfl mX9_triedCost k9_171 (by decide +kernel) rfl rfl hw (by decide) hr hd hkc hks hM k
theorem cX9_attempted_67 {l : Launch} {d mc ms : Nat} {Q : xP} {kc ks n : Nat} {L : xL} {rest : List Value} {ws : xW} {v0 v1 v2 : Value} {b : Nat} {vs : List Value} (hw : ws b = some (3, .inr (.inr (.inr vs)))) {dc cc cs : Nat} {Q' : xP} (hd : dc + 1 ≤ d) (hkc : cc ≤ kc) (hks : cs ≤ ks) (hr : (rest.map fun v => v.category).sum ≤ 8) (hM : xM l tX3_addAll dc cc cs [.ref b, v0, v1, v2] n ws Q') (k : ∀ r n' ws', Q' r n' ws' → xX l tX9_attempted d mc ms Q (kc - cc) (ks - cs) 70 L (r.toList ++ rest) n' ws') : xX l tX9_attempted d mc ms Q kc ks 67 L (v2 :: v1 :: v0 :: .ref b :: rest) n ws := xcallV (t := tX9_attempted) (As := [v0, v1, v2]) rfl mX3_addAll k9_174 (by decide +kernel) rfl rfl hw (by decide) hr hd hkc hks hM k
theorem cX9_attempted_88 {l : Launch} {d mc ms : Nat} {Q : xP} {kc ks n : Nat} {L : xL} {rest : List Value} {ws : xW} {v0 v1 : Value} {b : Nat} {vs : List Value} (hw : ws b = some (3, .inr (.inr (.inr vs)))) {dc cc cs : Nat} {Q' : xP} (hd : dc + 1 ≤ d) (hkc : cc ≤ kc) (hks : cs ≤ ks) (hr : (rest.map fun v => v.category).sum ≤ 8) (hM : xM l tX3_firstAbove dc cc cs [.ref b, v0, v1] n ws Q') (k : ∀ r n' ws', Q' r n' ws' → xX l tX9_attempted d mc ms Q (kc - cc) (ks - cs) 91 L (r.toList ++ rest) n' ws') : xX l tX9_attempted d mc ms Q kc ks 88 L (v1 :: v0 :: .ref b :: rest) n ws := xcallV (t := tX9_attempted) (As := [v0, v1]) rfl mX3_firstAbove k9_178 (by decide +kernel) rfl rfl hw (by decide) hr hd hkc hks hM k
def oX9_rate_0 : List xO := [(.aload_n 0, 0, 0), (.getfield 12, 9, 0), (.iload_n 1, 0, 0)]
def oX9_rate_8 : List xO := [(.ifCond .eq 12, 20, 0), (.iload_n 2, 0, 0), (.iconst 0, 0, 0), (.iconst 1, 0, 0)]
def oX9_rate_17 : List xO := [(.ifCond .ne 6, 23, 0)]
def oX9_rate_20 : List xO := [(.bipush (-2), 0, 0), (.ireturn, 0, 0)]
def oX9_rate_23 : List xO := [(.aload_n 0, 0, 0)]
def oX9_rate_27 : List xO := [(.aload_n 0, 0, 0), (.getfield 50, 9, 7), (.getfield 185, 0, 1), (.iload_n 1, 0, 0), (.iaload, 0, 0), (.iconst (-1), 0, 0), (.if_icmp .ne 5, 42, 0), (.iconst (-1), 0, 0), (.ireturn, 0, 0)]
def oX9_rate_42 : List xO := [(.aload_n 0, 0, 0), (.getfield 50, 9, 7), (.getfield 188, 0, 0), (.iload_n 1, 0, 0), (.aaload, 0, 0), (.astore_n 3, 0, 0), (.iload_n 2, 0, 0), (.ifCond .ne 10, 63, 0), (.aload_n 3, 0, 0), (.getfield 192, 2, 0), (.goto 7, 67, 0)]
def oX9_rate_63 : List xO := [(.aload_n 3, 0, 0), (.getfield 198, 2, 1)]
def oX9_rate_67 : List xO := [(.l2i, 0, 0), (.ireturn, 0, 0)]
def AX9_rate : List (Nat × List xO) := [(0, oX9_rate_0), (8, oX9_rate_8), (17, oX9_rate_17), (20, oX9_rate_20), (23, oX9_rate_23), (27, oX9_rate_27), (42, oX9_rate_42), (63, oX9_rate_63), (67, oX9_rate_67)]
theorem aX9_rate : xTok tX9_rate AX9_rate = true := by decide +kernel
theorem rX9_rate : tX9_rate.2.2.2.2 = (some .int) := rfl
theorem cX9_rate_5 {l : Launch} {d mc ms : Nat} {Q : xP} {kc ks n : Nat} {L : xL} {rest : List Value} {ws : xW} {v0 : Value} {b : Nat} {vs : List Value} (hw : ws b = some (4, .inr (.inr (.inr vs)))) {dc cc cs : Nat} {Q' : xP} (hd : dc + 1 ≤ d) (hkc : cc ≤ kc) (hks : cs ≤ ks) (hr : (rest.map fun v => v.category).sum ≤ 8) (hM : xM l tX4_isGood dc cc cs [.ref b, v0] n ws Q') (k : ∀ r n' ws', Q' r n' ws' → xX l tX9_rate d mc ms Q (kc - cc) (ks - cs) 8 L (r.toList ++ rest) n' ws') : xX l tX9_rate d mc ms Q kc ks 5 L (v0 :: .ref b :: rest) n ws := xcallV (t := tX9_rate) (As := [v0]) rfl mX4_isGood k9_105 (by decide +kernel) rfl rfl hw (by decide) hr hd hkc hks hM k
theorem cX9_rate_14 {l : Launch} {d mc ms : Nat} {Q : xP} {kc ks n : Nat} {L : xL} {rest : List Value} {ws : xW} {v0 v1 v2 : Value} {dc cc cs : Nat} {Q' : xP} (hd : dc + 1 ≤ d) (hkc : cc ≤ kc) (hks : cs ≤ ks) (hr : (rest.map fun v => v.category).sum ≤ 8) (hM : xM l tX9_isWithin dc cc cs [v0, v1, v2] n ws Q') (k : ∀ r n' ws', Q' r n' ws' → xX l tX9_rate d mc ms Q (kc - cc) (ks - cs) 17 L (r.toList ++ rest) n' ws') : xX l tX9_rate d mc ms Q kc ks 14 L (v2 :: v1 :: v0 :: rest) n ws := xcallS (t := tX9_rate) (As := [v0, v1, v2]) rfl mX9_isWithin k9_75 (by decide +kernel) rfl rfl hr hd hkc hks hM k
theorem cX9_rate_24 {l : Launch} {d mc ms : Nat} {Q : xP} {kc ks n : Nat} {L : xL} {rest : List Value} {ws : xW} {b : Nat} {vs : List Value} (hw : ws b = some (9, .inr (.inr (.inr vs)))) {dc cc cs : Nat} {Q' : xP} (hd : dc + 1 ≤ d) (hkc : cc ≤ kc) (hks : cs ≤ ks) (hr : (rest.map fun v => v.category).sum ≤ 8) (hM : xM l tX9_refreshRates dc cc cs [.ref b] n ws Q') (k : ∀ r n' ws', Q' r n' ws' → xX l tX9_rate d mc ms Q (kc - cc) (ks - cs) 27 L (r.toList ++ rest) n' ws') : xX l tX9_rate d mc ms Q kc ks 24 L (.ref b :: rest) n ws := xcallV (t := tX9_rate) (As := []) rfl mX9_refreshRates k9_182 (by decide +kernel) rfl rfl hw (by decide) hr hd hkc hks hM k
def oX9_bottleneck_0 : List xO := [(.aload_n 0, 0, 0), (.getfield 12, 9, 0), (.iload_n 1, 0, 0)]
def oX9_bottleneck_8 : List xO := [(.ifCond .ne 6, 14, 0), (.bipush (-2), 0, 0), (.ireturn, 0, 0)]
def oX9_bottleneck_14 : List xO := [(.aload_n 0, 0, 0)]
def oX9_bottleneck_18 : List xO := [(.aload_n 0, 0, 0), (.getfield 50, 9, 7), (.getfield 185, 0, 1), (.iload_n 1, 0, 0), (.iaload, 0, 0), (.ireturn, 0, 0)]
def AX9_bottleneck : List (Nat × List xO) := [(0, oX9_bottleneck_0), (8, oX9_bottleneck_8), (14, oX9_bottleneck_14), (18, oX9_bottleneck_18)]
theorem aX9_bottleneck : xTok tX9_bottleneck AX9_bottleneck = true := by decide +kernel
theorem rX9_bottleneck : tX9_bottleneck.2.2.2.2 = (some .int) := rfl
theorem cX9_bottleneck_5 {l : Launch} {d mc ms : Nat} {Q : xP} {kc ks n : Nat} {L : xL} {rest : List Value} {ws : xW} {v0 : Value} {b : Nat} {vs : List Value} (hw : ws b = some (4, .inr (.inr (.inr vs)))) {dc cc cs : Nat} {Q' : xP} (hd : dc + 1 ≤ d) (hkc : cc ≤ kc) (hks : cs ≤ ks) (hr : (rest.map fun v => v.category).sum ≤ 8) (hM : xM l tX4_isGood dc cc cs [.ref b, v0] n ws Q') (k : ∀ r n' ws', Q' r n' ws' → xX l tX9_bottleneck d mc ms Q (kc - cc) (ks - cs) 8 L (r.toList ++ rest) n' ws') : xX l tX9_bottleneck d mc ms Q kc ks 5 L (v0 :: .ref b :: rest) n ws := xcallV (t := tX9_bottleneck) (As := [v0]) rfl mX4_isGood k9_105 (by decide +kernel) rfl rfl hw (by decide) hr hd hkc hks hM k
theorem cX9_bottleneck_15 {l : Launch} {d mc ms : Nat} {Q : xP} {kc ks n : Nat} {L : xL} {rest : List Value} {ws : xW} {b : Nat} {vs : List Value} (hw : ws b = some (9, .inr (.inr (.inr vs)))) {dc cc cs : Nat} {Q' : xP} (hd : dc + 1 ≤ d) (hkc : cc ≤ kc) (hks : cs ≤ ks) (hr : (rest.map fun v => v.category).sum ≤ 8) (hM : xM l tX9_refreshRates dc cc cs [.ref b] n ws Q') (k : ∀ r n' ws', Q' r n' ws' → xX l tX9_bottleneck d mc ms Q (kc - cc) (ks - cs) 18 L (r.toList ++ rest) n' ws') : xX l tX9_bottleneck d mc ms Q kc ks 15 L (.ref b :: rest) n ws := xcallV (t := tX9_bottleneck) (As := []) rfl mX9_refreshRates k9_182 (by decide +kernel) rfl rfl hw (by decide) hr hd hkc hks hM k
def oX9_more_0 : List xO := [(.aload_n 0, 0, 0), (.getfield 12, 9, 0), (.iload_n 1, 0, 0)]
def oX9_more_8 : List xO := [(.ifCond .ne 6, 14, 0), (.bipush (-2), 0, 0), (.ireturn, 0, 0)]
def oX9_more_14 : List xO := [(.aload_n 0, 0, 0)]
def oX9_more_18 : List xO := [(.aload_n 0, 0, 0), (.getfield 57, 9, 8), (.aload_n 0, 0, 0), (.getfield 12, 9, 0), (.aload_n 0, 0, 0), (.getfield 36, 9, 4), (.aload_n 0, 0, 0), (.getfield 12, 9, 0), (.getfield 201, 4, 9), (.iload_n 1, 0, 0), (.iaload, 0, 0), (.aload_n 0, 0, 0), (.getfield 12, 9, 0), (.getfield 204, 4, 10), (.iload_n 1, 0, 0), (.iaload, 0, 0)]
def oX9_more_51 : List xO := [(.ireturn, 0, 0)]
def AX9_more : List (Nat × List xO) := [(0, oX9_more_0), (8, oX9_more_8), (14, oX9_more_14), (18, oX9_more_18), (51, oX9_more_51)]
theorem aX9_more : xTok tX9_more AX9_more = true := by decide +kernel
theorem rX9_more : tX9_more.2.2.2.2 = (some .int) := rfl
theorem cX9_more_5 {l : Launch} {d mc ms : Nat} {Q : xP} {kc ks n : Nat} {L : xL} {rest : List Value} {ws : xW} {v0 : Value} {b : Nat} {vs : List Value} (hw : ws b = some (4, .inr (.inr (.inr vs)))) {dc cc cs : Nat} {Q' : xP} (hd : dc + 1 ≤ d) (hkc : cc ≤ kc) (hks : cs ≤ ks) (hr : (rest.map fun v => v.category).sum ≤ 8) (hM : xM l tX4_isGood dc cc cs [.ref b, v0] n ws Q') (k : ∀ r n' ws', Q' r n' ws' → xX l tX9_more d mc ms Q (kc - cc) (ks - cs) 8 L (r.toList ++ rest) n' ws') : xX l tX9_more d mc ms Q kc ks 5 L (v0 :: .ref b :: rest) n ws := xcallV (t := tX9_more) (As := [v0]) rfl mX4_isGood k9_105 (by decide +kernel) rfl rfl hw (by decide) hr hd hkc hks hM k
theorem cX9_more_15 {l : Launch} {d mc ms : Nat} {Q : xP} {kc ks n : Nat} {L : xL} {rest : List Value} {ws : xW} {b : Nat} {vs : List Value} (hw : ws b = some (9, .inr (.inr (.inr vs)))) {dc cc cs : Nat} {Q' : xP} (hd : dc + 1 ≤ d) (hkc : cc ≤ kc) (hks : cs ≤ ks) (hr : (rest.map fun v => v.category).sum ≤ 8) (hM : xM l tX9_refreshPlan dc cc cs [.ref b] n ws Q') (k : ∀ r n' ws', Q' r n' ws' → xX l tX9_more d mc ms Q (kc - cc) (ks - cs) 18 L (r.toList ++ rest) n' ws') : xX l tX9_more d mc ms Q kc ks 15 L (.ref b :: rest) n ws := xcallV (t := tX9_more) (As := []) rfl mX9_refreshPlan k9_144 (by decide +kernel) rfl rfl hw (by decide) hr hd hkc hks hM k
theorem cX9_more_48 {l : Launch} {d mc ms : Nat} {Q : xP} {kc ks n : Nat} {L : xL} {rest : List Value} {ws : xW} {v0 v1 v2 v3 : Value} {b : Nat} {vs : List Value} (hw : ws b = some (1, .inr (.inr (.inr vs)))) {dc cc cs : Nat} {Q' : xP} (hd : dc + 1 ≤ d) (hkc : cc ≤ kc) (hks : cs ≤ ks) (hr : (rest.map fun v => v.category).sum ≤ 8) (hM : xM l tX1_most dc cc cs [.ref b, v0, v1, v2, v3] n ws Q') (k : ∀ r n' ws', Q' r n' ws' → xX l tX9_more d mc ms Q (kc - cc) (ks - cs) 51 L (r.toList ++ rest) n' ws') : xX l tX9_more d mc ms Q kc ks 48 L (v3 :: v2 :: v1 :: v0 :: .ref b :: rest) n ws := xcallV (t := tX9_more) (As := [v0, v1, v2, v3]) rfl mX1_most k9_207 (by decide +kernel) rfl rfl hw (by decide) hr hd hkc hks hM k
def oX9_cut_0 : List xO := [(.iconst 1, 0, 0), (.aload_n 0, 0, 0), (.getfield 12, 9, 0), (.getfield 65, 4, 0), (.ishl, 0, 0), (.istore_n 1, 0, 0), (.iconst 0, 0, 0), (.istore_n 2, 0, 0)]
def oX9_cut_12 : List xO := [(.iload_n 2, 0, 0), (.iload_n 1, 0, 0), (.if_icmp .ge 22, 36, 0), (.aload_n 0, 0, 0), (.getfield 12, 9, 0), (.iload_n 2, 0, 0)]
def oX9_cut_25 : List xO := [(.ifCond .eq 5, 30, 0), (.iload_n 2, 0, 0), (.ireturn, 0, 0)]
def oX9_cut_30 : List xO := [(.iinc 2 1, 0, 0), (.goto (-21), 12, 0)]
def oX9_cut_36 : List xO := [(.iconst (-1), 0, 0), (.ireturn, 0, 0)]
def AX9_cut : List (Nat × List xO) := [(0, oX9_cut_0), (12, oX9_cut_12), (25, oX9_cut_25), (30, oX9_cut_30), (36, oX9_cut_36)]
theorem aX9_cut : xTok tX9_cut AX9_cut = true := by decide +kernel
theorem rX9_cut : tX9_cut.2.2.2.2 = (some .int) := rfl
theorem cX9_cut_22 {l : Launch} {d mc ms : Nat} {Q : xP} {kc ks n : Nat} {L : xL} {rest : List Value} {ws : xW} {v0 : Value} {b : Nat} {vs : List Value} (hw : ws b = some (4, .inr (.inr (.inr vs)))) {dc cc cs : Nat} {Q' : xP} (hd : dc + 1 ≤ d) (hkc : cc ≤ kc) (hks : cs ≤ ks) (hr : (rest.map fun v => v.category).sum ≤ 8) (hM : xM l tX4_isCut dc cc cs [.ref b, v0] n ws Q') (k : ∀ r n' ws', Q' r n' ws' → xX l tX9_cut d mc ms Q (kc - cc) (ks - cs) 25 L (r.toList ++ rest) n' ws') : xX l tX9_cut d mc ms Q kc ks 22 L (v0 :: .ref b :: rest) n ws := xcallV (t := tX9_cut) (As := [v0]) rfl mX4_isCut k9_211 (by decide +kernel) rfl rfl hw (by decide) hr hd hkc hks hM k
def oX9_count_0 : List xO := [(.iload_n 1, 0, 0)]
def oX9_count_40 : List xO := [(.aload_n 0, 0, 0), (.getfield 12, 9, 0), (.getfield 65, 4, 0), (.ireturn, 0, 0)]
def oX9_count_48 : List xO := [(.aload_n 0, 0, 0), (.getfield 12, 9, 0), (.getfield 79, 4, 1), (.ireturn, 0, 0)]
def oX9_count_56 : List xO := [(.aload_n 0, 0, 0), (.getfield 12, 9, 0), (.getfield 99, 4, 2), (.ireturn, 0, 0)]
def oX9_count_64 : List xO := [(.aload_n 0, 0, 0), (.getfield 12, 9, 0), (.getfield 90, 4, 7), (.aload_n 0, 0, 0), (.getfield 12, 9, 0), (.getfield 79, 4, 1)]
def oX9_count_81 : List xO := [(.ireturn, 0, 0)]
def oX9_count_82 : List xO := [(.aload_n 0, 0, 0), (.getfield 12, 9, 0), (.getfield 108, 4, 11), (.aload_n 0, 0, 0), (.getfield 12, 9, 0), (.getfield 99, 4, 2)]
def oX9_count_99 : List xO := [(.ireturn, 0, 0)]
def oX9_count_100 : List xO := [(.aload_n 0, 0, 0), (.getfield 12, 9, 0), (.getfield 111, 4, 12), (.aload_n 0, 0, 0), (.getfield 12, 9, 0), (.getfield 99, 4, 2)]
def oX9_count_117 : List xO := [(.ireturn, 0, 0)]
def oX9_count_118 : List xO := [(.bipush (-2), 0, 0), (.ireturn, 0, 0)]
def AX9_count : List (Nat × List xO) := [(0, oX9_count_0), (40, oX9_count_40), (48, oX9_count_48), (56, oX9_count_56), (64, oX9_count_64), (81, oX9_count_81), (82, oX9_count_82), (99, oX9_count_99), (100, oX9_count_100), (117, oX9_count_117), (118, oX9_count_118)]
theorem aX9_count : xTok tX9_count AX9_count = true := by decide +kernel
theorem rX9_count : tX9_count.2.2.2.2 = (some .int) := rfl
theorem cX9_count_78 {l : Launch} {d mc ms : Nat} {Q : xP} {kc ks n : Nat} {L : xL} {rest : List Value} {ws : xW} {v0 v1 : Value} {dc cc cs : Nat} {Q' : xP} (hd : dc + 1 ≤ d) (hkc : cc ≤ kc) (hks : cs ≤ ks) (hr : (rest.map fun v => v.category).sum ≤ 8) (hM : xM l tX9_sumOfFirst dc cc cs [v0, v1] n ws Q') (k : ∀ r n' ws', Q' r n' ws' → xX l tX9_count d mc ms Q (kc - cc) (ks - cs) 81 L (r.toList ++ rest) n' ws') : xX l tX9_count d mc ms Q kc ks 78 L (v1 :: v0 :: rest) n ws := xcallS (t := tX9_count) (As := [v0, v1]) rfl mX9_sumOfFirst k9_214 (by decide +kernel) rfl rfl hr hd hkc hks hM k
theorem cX9_count_96 {l : Launch} {d mc ms : Nat} {Q : xP} {kc ks n : Nat} {L : xL} {rest : List Value} {ws : xW} {v0 v1 : Value} {dc cc cs : Nat} {Q' : xP} (hd : dc + 1 ≤ d) (hkc : cc ≤ kc) (hks : cs ≤ ks) (hr : (rest.map fun v => v.category).sum ≤ 8) (hM : xM l tX9_sumOfFirst dc cc cs [v0, v1] n ws Q') (k : ∀ r n' ws', Q' r n' ws' → xX l tX9_count d mc ms Q (kc - cc) (ks - cs) 99 L (r.toList ++ rest) n' ws') : xX l tX9_count d mc ms Q kc ks 96 L (v1 :: v0 :: rest) n ws := xcallS (t := tX9_count) (As := [v0, v1]) rfl mX9_sumOfFirst k9_214 (by decide +kernel) rfl rfl hr hd hkc hks hM k
theorem cX9_count_114 {l : Launch} {d mc ms : Nat} {Q : xP} {kc ks n : Nat} {L : xL} {rest : List Value} {ws : xW} {v0 v1 : Value} {dc cc cs : Nat} {Q' : xP} (hd : dc + 1 ≤ d) (hkc : cc ≤ kc) (hks : cs ≤ ks) (hr : (rest.map fun v => v.category).sum ≤ 8) (hM : xM l tX9_sumOfFirst dc cc cs [v0, v1] n ws Q') (k : ∀ r n' ws', Q' r n' ws' → xX l tX9_count d mc ms Q (kc - cc) (ks - cs) 117 L (r.toList ++ rest) n' ws') : xX l tX9_count d mc ms Q kc ks 114 L (v1 :: v0 :: rest) n ws := xcallS (t := tX9_count) (As := [v0, v1]) rfl mX9_sumOfFirst k9_214 (by decide +kernel) rfl rfl hr hd hkc hks hM k
def oX9_refreshPlan_0 : List xO := [(.aload_n 0, 0, 0), (.getfield 61, 9, 9), (.aload_n 0, 0, 0), (.getfield 12, 9, 0), (.getfield 68, 4, 3), (.if_icmp .ne 4, 15, 0), (.return_, 0, 0)]
def oX9_refreshPlan_15 : List xO := [(.aload_n 0, 0, 0), (.getfield 19, 9, 1), (.aload_n 0, 0, 0), (.getfield 12, 9, 0)]
def oX9_refreshPlan_26 : List xO := [(.aload_n 0, 0, 0), (.getfield 26, 9, 2), (.aload_n 0, 0, 0), (.getfield 12, 9, 0), (.aload_n 0, 0, 0), (.getfield 19, 9, 1)]
def oX9_refreshPlan_41 : List xO := [(.aload_n 0, 0, 0), (.getfield 36, 9, 4), (.aload_n 0, 0, 0), (.getfield 12, 9, 0), (.aload_n 0, 0, 0), (.getfield 19, 9, 1), (.aload_n 0, 0, 0), (.getfield 26, 9, 2), (.getfield 153, 5, 0)]
def oX9_refreshPlan_63 : List xO := [(.aload_n 0, 0, 0), (.aload_n 0, 0, 0), (.getfield 12, 9, 0), (.getfield 68, 4, 3), (.putfield 61, 9, 9), (.return_, 0, 0)]
def AX9_refreshPlan : List (Nat × List xO) := [(0, oX9_refreshPlan_0), (15, oX9_refreshPlan_15), (26, oX9_refreshPlan_26), (41, oX9_refreshPlan_41), (63, oX9_refreshPlan_63)]
theorem aX9_refreshPlan : xTok tX9_refreshPlan AX9_refreshPlan = true := by decide +kernel
theorem rX9_refreshPlan : tX9_refreshPlan.2.2.2.2 = none := rfl
theorem cX9_refreshPlan_23 {l : Launch} {d mc ms : Nat} {Q : xP} {kc ks n : Nat} {L : xL} {rest : List Value} {ws : xW} {v0 : Value} {b : Nat} {vs : List Value} (hw : ws b = some (8, .inr (.inr (.inr vs)))) {dc cc cs : Nat} {Q' : xP} (hd : dc + 1 ≤ d) (hkc : cc ≤ kc) (hks : cs ≤ ks) (hr : (rest.map fun v => v.category).sum ≤ 8) (hM : xM l tX8_refresh dc cc cs [.ref b, v0] n ws Q') (k : ∀ r n' ws', Q' r n' ws' → xX l tX9_refreshPlan d mc ms Q (kc - cc) (ks - cs) 26 L (r.toList ++ rest) n' ws') : xX l tX9_refreshPlan d mc ms Q kc ks 23 L (v0 :: .ref b :: rest) n ws := xcallV (t := tX9_refreshPlan) (As := [v0]) rfl mX8_refresh k9_114 (by decide +kernel) rfl rfl hw (by decide) hr hd hkc hks hM k
theorem cX9_refreshPlan_38 {l : Launch} {d mc ms : Nat} {Q : xP} {kc ks n : Nat} {L : xL} {rest : List Value} {ws : xW} {v0 v1 : Value} {b : Nat} {vs : List Value} (hw : ws b = some (5, .inr (.inr (.inr vs)))) {dc cc cs : Nat} {Q' : xP} (hd : dc + 1 ≤ d) (hkc : cc ≤ kc) (hks : cs ≤ ks) (hr : (rest.map fun v => v.category).sum ≤ 8) (hM : xM l tX5_findBest dc cc cs [.ref b, v0, v1] n ws Q') (k : ∀ r n' ws', Q' r n' ws' → xX l tX9_refreshPlan d mc ms Q (kc - cc) (ks - cs) 41 L (r.toList ++ rest) n' ws') : xX l tX9_refreshPlan d mc ms Q kc ks 38 L (v1 :: v0 :: .ref b :: rest) n ws := xcallV (t := tX9_refreshPlan) (As := [v0, v1]) rfl mX5_findBest k9_217 (by decide +kernel) rfl rfl hw (by decide) hr hd hkc hks hM k
theorem cX9_refreshPlan_60 {l : Launch} {d mc ms : Nat} {Q : xP} {kc ks n : Nat} {L : xL} {rest : List Value} {ws : xW} {v0 v1 v2 : Value} {b : Nat} {vs : List Value} (hw : ws b = some (3, .inr (.inr (.inr vs)))) {dc cc cs : Nat} {Q' : xP} (hd : dc + 1 ≤ d) (hkc : cc ≤ kc) (hks : cs ≤ ks) (hr : (rest.map fun v => v.category).sum ≤ 8) (hM : xM l tX3_addAll dc cc cs [.ref b, v0, v1, v2] n ws Q') (k : ∀ r n' ws', Q' r n' ws' → xX l tX9_refreshPlan d mc ms Q (kc - cc) (ks - cs) 63 L (r.toList ++ rest) n' ws') : xX l tX9_refreshPlan d mc ms Q kc ks 60 L (v2 :: v1 :: v0 :: .ref b :: rest) n ws := xcallV (t := tX9_refreshPlan) (As := [v0, v1, v2]) rfl mX3_addAll k9_174 (by decide +kernel) rfl rfl hw (by decide) hr hd hkc hks hM k
def oX9_refreshRates_0 : List xO := [(.aload_n 0, 0, 0), (.getfield 19, 9, 1), (.aload_n 0, 0, 0), (.getfield 12, 9, 0)]
def oX9_refreshRates_11 : List xO := [(.aload_n 0, 0, 0), (.getfield 50, 9, 7), (.aload_n 0, 0, 0), (.getfield 12, 9, 0), (.aload_n 0, 0, 0), (.getfield 19, 9, 1)]
def oX9_refreshRates_26 : List xO := [(.return_, 0, 0)]
def AX9_refreshRates : List (Nat × List xO) := [(0, oX9_refreshRates_0), (11, oX9_refreshRates_11), (26, oX9_refreshRates_26)]
theorem aX9_refreshRates : xTok tX9_refreshRates AX9_refreshRates = true := by decide +kernel
theorem rX9_refreshRates : tX9_refreshRates.2.2.2.2 = none := rfl
theorem cX9_refreshRates_8 {l : Launch} {d mc ms : Nat} {Q : xP} {kc ks n : Nat} {L : xL} {rest : List Value} {ws : xW} {v0 : Value} {b : Nat} {vs : List Value} (hw : ws b = some (8, .inr (.inr (.inr vs)))) {dc cc cs : Nat} {Q' : xP} (hd : dc + 1 ≤ d) (hkc : cc ≤ kc) (hks : cs ≤ ks) (hr : (rest.map fun v => v.category).sum ≤ 8) (hM : xM l tX8_refresh dc cc cs [.ref b, v0] n ws Q') (k : ∀ r n' ws', Q' r n' ws' → xX l tX9_refreshRates d mc ms Q (kc - cc) (ks - cs) 11 L (r.toList ++ rest) n' ws') : xX l tX9_refreshRates d mc ms Q kc ks 8 L (v0 :: .ref b :: rest) n ws := xcallV (t := tX9_refreshRates) (As := [v0]) rfl mX8_refresh k9_114 (by decide +kernel) rfl rfl hw (by decide) hr hd hkc hks hM k
theorem cX9_refreshRates_23 {l : Launch} {d mc ms : Nat} {Q : xP} {kc ks n : Nat} {L : xL} {rest : List Value} {ws : xW} {v0 v1 : Value} {b : Nat} {vs : List Value} (hw : ws b = some (0, .inr (.inr (.inr vs)))) {dc cc cs : Nat} {Q' : xP} (hd : dc + 1 ≤ d) (hkc : cc ≤ kc) (hks : cs ≤ ks) (hr : (rest.map fun v => v.category).sum ≤ 8) (hM : xM l tX0_refresh dc cc cs [.ref b, v0, v1] n ws Q') (k : ∀ r n' ws', Q' r n' ws' → xX l tX9_refreshRates d mc ms Q (kc - cc) (ks - cs) 26 L (r.toList ++ rest) n' ws') : xX l tX9_refreshRates d mc ms Q kc ks 23 L (v1 :: v0 :: .ref b :: rest) n ws := xcallV (t := tX9_refreshRates) (As := [v0, v1]) rfl mX0_refresh k9_221 (by decide +kernel) rfl rfl hw (by decide) hr hd hkc hks hM k
def oX9_areTriedThere_0 : List xO := [(.iconst 0, 0, 0), (.istore_n 1, 0, 0)]
def oX9_areTriedThere_2 : List xO := [(.iload_n 1, 0, 0), (.aload_n 0, 0, 0), (.getfield 12, 9, 0), (.getfield 99, 4, 2), (.if_icmp .ge 42, 52, 0), (.aload_n 0, 0, 0), (.getfield 43, 9, 6), (.iload_n 1, 0, 0), (.iaload, 0, 0), (.iconst (-1), 0, 0), (.if_icmp .eq 26, 46, 0), (.aload_n 0, 0, 0), (.getfield 19, 9, 1), (.getfield 118, 8, 0), (.iload_n 1, 0, 0), (.aaload, 0, 0), (.aload_n 0, 0, 0), (.getfield 43, 9, 6), (.iload_n 1, 0, 0), (.iaload, 0, 0)]
def oX9_areTriedThere_41 : List xO := [(.ifCond .ne 5, 46, 0), (.iconst 0, 0, 0), (.ireturn, 0, 0)]
def oX9_areTriedThere_46 : List xO := [(.iinc 1 1, 0, 0), (.goto (-47), 2, 0)]
def oX9_areTriedThere_52 : List xO := [(.iconst 1, 0, 0), (.ireturn, 0, 0)]
def AX9_areTriedThere : List (Nat × List xO) := [(0, oX9_areTriedThere_0), (2, oX9_areTriedThere_2), (41, oX9_areTriedThere_41), (46, oX9_areTriedThere_46), (52, oX9_areTriedThere_52)]
theorem aX9_areTriedThere : xTok tX9_areTriedThere AX9_areTriedThere = true := by decide +kernel
theorem rX9_areTriedThere : tX9_areTriedThere.2.2.2.2 = (some .boolean) := rfl
theorem cX9_areTriedThere_38 {l : Launch} {d mc ms : Nat} {Q : xP} {kc ks n : Nat} {L : xL} {rest : List Value} {ws : xW} {v0 : Value} {b : Nat} {vs : List Value} (hw : ws b = some (7, .inr (.inr (.inr vs)))) {dc cc cs : Nat} {Q' : xP} (hd : dc + 1 ≤ d) (hkc : cc ≤ kc) (hks : cs ≤ ks) (hr : (rest.map fun v => v.category).sum ≤ 8) (hM : xM l tX7_has dc cc cs [.ref b, v0] n ws Q') (k : ∀ r n' ws', Q' r n' ws' → xX l tX9_areTriedThere d mc ms Q (kc - cc) (ks - cs) 41 L (r.toList ++ rest) n' ws') : xX l tX9_areTriedThere d mc ms Q kc ks 38 L (v0 :: .ref b :: rest) n ws := xcallV (t := tX9_areTriedThere) (As := [v0]) rfl mX7_has k9_127 (by decide +kernel) rfl rfl hw (by decide) hr hd hkc hks hM k
def oX9_triedWorth_0 : List xO := [(.iconst 0, 0, 0), (.istore_n 1, 0, 0), (.iconst 0, 0, 0), (.istore_n 2, 0, 0)]
def oX9_triedWorth_4 : List xO := [(.iload_n 2, 0, 0), (.aload_n 0, 0, 0), (.getfield 12, 9, 0), (.getfield 99, 4, 2), (.if_icmp .ge 31, 43, 0), (.aload_n 0, 0, 0), (.getfield 43, 9, 6), (.iload_n 2, 0, 0), (.iaload, 0, 0), (.iconst (-1), 0, 0), (.if_icmp .eq 15, 37, 0), (.iload_n 1, 0, 0), (.aload_n 0, 0, 0), (.getfield 12, 9, 0), (.getfield 111, 4, 12), (.iload_n 2, 0, 0), (.iaload, 0, 0), (.iadd, 0, 0), (.istore_n 1, 0, 0)]
def oX9_triedWorth_37 : List xO := [(.iinc 2 1, 0, 0), (.goto (-36), 4, 0)]
def oX9_triedWorth_43 : List xO := [(.iload_n 1, 0, 0), (.ireturn, 0, 0)]
def AX9_triedWorth : List (Nat × List xO) := [(0, oX9_triedWorth_0), (4, oX9_triedWorth_4), (37, oX9_triedWorth_37), (43, oX9_triedWorth_43)]
theorem aX9_triedWorth : xTok tX9_triedWorth AX9_triedWorth = true := by decide +kernel
theorem rX9_triedWorth : tX9_triedWorth.2.2.2.2 = (some .int) := rfl
def oX9_triedCost_0 : List xO := [(.iconst 0, 0, 0), (.istore_n 1, 0, 0), (.iconst 0, 0, 0), (.istore_n 2, 0, 0)]
def oX9_triedCost_4 : List xO := [(.iload_n 2, 0, 0), (.aload_n 0, 0, 0), (.getfield 12, 9, 0), (.getfield 99, 4, 2), (.if_icmp .ge 59, 71, 0), (.aload_n 0, 0, 0), (.getfield 19, 9, 1), (.getfield 118, 8, 0), (.iload_n 2, 0, 0), (.aaload, 0, 0), (.astore_n 3, 0, 0), (.aload_n 3, 0, 0), (.aload_n 0, 0, 0), (.getfield 43, 9, 6), (.iload_n 2, 0, 0), (.iaload, 0, 0)]
def oX9_triedCost_35 : List xO := [(.ifCond .eq 30, 65, 0), (.iload_n 1, 0, 0), (.aload_n 0, 0, 0), (.getfield 12, 9, 0), (.getfield 108, 4, 11), (.iload_n 2, 0, 0), (.iaload, 0, 0), (.aload_n 3, 0, 0), (.getfield 130, 7, 1), (.aload_n 0, 0, 0), (.getfield 43, 9, 6), (.iload_n 2, 0, 0), (.iaload, 0, 0), (.aaload, 0, 0), (.getfield 139, 6, 1), (.imul, 0, 0), (.iadd, 0, 0), (.istore_n 1, 0, 0)]
def oX9_triedCost_65 : List xO := [(.iinc 2 1, 0, 0), (.goto (-64), 4, 0)]
def oX9_triedCost_71 : List xO := [(.iload_n 1, 0, 0), (.ireturn, 0, 0)]
def AX9_triedCost : List (Nat × List xO) := [(0, oX9_triedCost_0), (4, oX9_triedCost_4), (35, oX9_triedCost_35), (65, oX9_triedCost_65), (71, oX9_triedCost_71)]
theorem aX9_triedCost : xTok tX9_triedCost AX9_triedCost = true := by decide +kernel
theorem rX9_triedCost : tX9_triedCost.2.2.2.2 = (some .int) := rfl
theorem cX9_triedCost_32 {l : Launch} {d mc ms : Nat} {Q : xP} {kc ks n : Nat} {L : xL} {rest : List Value} {ws : xW} {v0 : Value} {b : Nat} {vs : List Value} (hw : ws b = some (7, .inr (.inr (.inr vs)))) {dc cc cs : Nat} {Q' : xP} (hd : dc + 1 ≤ d) (hkc : cc ≤ kc) (hks : cs ≤ ks) (hr : (rest.map fun v => v.category).sum ≤ 8) (hM : xM l tX7_has dc cc cs [.ref b, v0] n ws Q') (k : ∀ r n' ws', Q' r n' ws' → xX l tX9_triedCost d mc ms Q (kc - cc) (ks - cs) 35 L (r.toList ++ rest) n' ws') : xX l tX9_triedCost d mc ms Q kc ks 32 L (v0 :: .ref b :: rest) n ws := xcallV (t := tX9_triedCost) (As := [v0]) rfl mX7_has k9_127 (by decide +kernel) rfl rfl hw (by decide) hr hd hkc hks hM k
def oX9_isWithin_0 : List xO := [(.iload_n 0, 0, 0), (.iload_n 1, 0, 0), (.if_icmp .lt 12, 14, 0), (.iload_n 0, 0, 0), (.iload_n 2, 0, 0), (.if_icmp .gt 7, 14, 0), (.iconst 1, 0, 0), (.goto 4, 15, 0)]
def oX9_isWithin_14 : List xO := [(.iconst 0, 0, 0)]
def oX9_isWithin_15 : List xO := [(.ireturn, 0, 0)]
def AX9_isWithin : List (Nat × List xO) := [(0, oX9_isWithin_0), (14, oX9_isWithin_14), (15, oX9_isWithin_15)]
theorem aX9_isWithin : xTok tX9_isWithin AX9_isWithin = true := by decide +kernel
theorem rX9_isWithin : tX9_isWithin.2.2.2.2 = (some .boolean) := rfl
def oX9_sumOfFirst_0 : List xO := [(.iconst 0, 0, 0), (.istore_n 2, 0, 0), (.iconst 0, 0, 0), (.istore_n 3, 0, 0)]
def oX9_sumOfFirst_4 : List xO := [(.iload_n 3, 0, 0), (.iload_n 1, 0, 0), (.if_icmp .ge 21, 27, 0), (.iload_n 3, 0, 0), (.aload_n 0, 0, 0), (.arraylength, 0, 0), (.if_icmp .ge 15, 27, 0), (.iload_n 2, 0, 0), (.aload_n 0, 0, 0), (.iload_n 3, 0, 0), (.iaload, 0, 0), (.iadd, 0, 0), (.istore_n 2, 0, 0), (.iinc 3 1, 0, 0), (.goto (-20), 4, 0)]
def oX9_sumOfFirst_27 : List xO := [(.iload_n 2, 0, 0), (.ireturn, 0, 0)]
def AX9_sumOfFirst : List (Nat × List xO) := [(0, oX9_sumOfFirst_0), (4, oX9_sumOfFirst_4), (27, oX9_sumOfFirst_27)]
theorem aX9_sumOfFirst : xTok tX9_sumOfFirst AX9_sumOfFirst = true := by decide +kernel
theorem rX9_sumOfFirst : tX9_sumOfFirst.2.2.2.2 = (some .int) := rfl
end
section
def oX10_in_0 : List xO := [(.iload_n 0, 0, 0), (.iload_n 1, 0, 0), (.if_icmp .lt 12, 14, 0), (.iload_n 0, 0, 0), (.iload_n 2, 0, 0), (.if_icmp .gt 7, 14, 0), (.iconst 1, 0, 0), (.goto 4, 15, 0)]
def oX10_in_14 : List xO := [(.iconst 0, 0, 0)]
def oX10_in_15 : List xO := [(.ireturn, 0, 0)]
def AX10_in : List (Nat × List xO) := [(0, oX10_in_0), (14, oX10_in_14), (15, oX10_in_15)]
theorem aX10_in : xTok tX10_in AX10_in = true := by decide +kernel
theorem rX10_in : tX10_in.2.2.2.2 = (some .boolean) := rfl
def oX10_init_0 : List xO := [(.aload_n 0, 0, 0)]
def oX10_init_4 : List xO := [(.aload_n 0, 0, 0), (.bipush 24, 0, 0), (.newarray .int, 0, 0), (.putfield 13, 10, 3), (.aload_n 0, 0, 0), (.bipush 24, 0, 0), (.newarray .int, 0, 0), (.putfield 17, 10, 4), (.aload_n 0, 0, 0), (.bipush 24, 0, 0), (.newarray .int, 0, 0), (.putfield 20, 10, 5), (.aload_n 0, 0, 0), (.bipush 24, 0, 0), (.newarray .int, 0, 0), (.putfield 23, 10, 6), (.aload_n 0, 0, 0), (.bipush 6, 0, 0), (.newarray .int, 0, 0), (.putfield 26, 10, 8), (.aload_n 0, 0, 0), (.bipush 6, 0, 0), (.newarray .int, 0, 0), (.putfield 29, 10, 9), (.aload_n 0, 0, 0), (.bipush 6, 0, 0), (.newarray .int, 0, 0), (.putfield 32, 10, 10), (.aload_n 0, 0, 0), (.bipush 6, 0, 0), (.newarray .int, 0, 0), (.putfield 35, 10, 11), (.aload_n 0, 0, 0), (.bipush 6, 0, 0), (.newarray .int, 0, 0), (.putfield 38, 10, 12), (.aload_n 0, 0, 0), (.bipush 6, 0, 0), (.newarray .int, 0, 0), (.putfield 41, 10, 13), (.aload_n 0, 0, 0), (.sipush 300, 0, 0), (.newarray .int, 0, 0), (.putfield 44, 10, 14), (.aload_n 0, 0, 0), (.bipush 30, 0, 0), (.newarray .int, 0, 0), (.putfield 47, 10, 15), (.aload_n 0, 0, 0), (.bipush 30, 0, 0), (.newarray .int, 0, 0), (.putfield 50, 10, 16), (.aload_n 0, 0, 0), (.bipush 10, 0, 0), (.newarray .int, 0, 0), (.putfield 53, 10, 17), (.aload_n 0, 0, 0), (.bipush 6, 0, 0), (.newarray .int, 0, 0), (.putfield 56, 10, 18), (.aload_n 0, 0, 0), (.bipush 6, 0, 0), (.newarray .int, 0, 0), (.putfield 59, 10, 19), (.aload_n 0, 0, 0), (.bipush 24, 0, 0), (.newarray .int, 0, 0), (.putfield 62, 10, 22), (.aload_n 0, 0, 0), (.bipush 6, 0, 0), (.newarray .long, 0, 0), (.putfield 65, 10, 23), (.aload_n 0, 0, 0), (.bipush 6, 0, 0), (.newarray .long, 0, 0), (.putfield 69, 10, 24), (.aload_n 0, 0, 0), (.bipush 6, 0, 0), (.newarray .int, 0, 0), (.putfield 72, 10, 25), (.aload_n 0, 0, 0), (.iconst 0, 0, 0), (.putfield 1, 10, 0), (.return_, 0, 0)]
def AX10_init : List (Nat × List xO) := [(0, oX10_init_0), (4, oX10_init_4)]
theorem aX10_init : xTok tX10_init AX10_init = true := by decide +kernel
theorem rX10_init : tX10_init.2.2.2.2 = none := rfl
theorem cX10_init_1 {l : Launch} {d mc ms : Nat} {Q : xP} {kc ks n : Nat} {L : xL} {rest : List Value} {ws : xW} {b : Nat} (hd : 1 ≤ d) (hr : (rest.map fun v => v.category).sum ≤ 8) (k : xX l tX10_init d mc ms Q kc ks 4 L rest n ws) : xX l tX10_init d mc ms Q kc ks 1 L (.ref b :: rest) n ws := xcallO (t := tX10_init) rfl k10_7 (by decide +kernel) hd hr k
def oX10_noNode_0 : List xO := [(.iload_n 1, 0, 0), (.iconst 0, 0, 0), (.aload_n 0, 0, 0), (.getfield 75, 10, 1), (.iconst 1, 0, 0), (.isub, 0, 0)]
def oX10_noNode_11 : List xO := [(.ifCond .ne 7, 18, 0), (.iconst 1, 0, 0), (.goto 4, 19, 0)]
def oX10_noNode_18 : List xO := [(.iconst 0, 0, 0)]
def oX10_noNode_19 : List xO := [(.ireturn, 0, 0)]
def AX10_noNode : List (Nat × List xO) := [(0, oX10_noNode_0), (11, oX10_noNode_11), (18, oX10_noNode_18), (19, oX10_noNode_19)]
theorem aX10_noNode : xTok tX10_noNode AX10_noNode = true := by decide +kernel
theorem rX10_noNode : tX10_noNode.2.2.2.2 = (some .boolean) := rfl
theorem cX10_noNode_8 {l : Launch} {d mc ms : Nat} {Q : xP} {kc ks n : Nat} {L : xL} {rest : List Value} {ws : xW} {v0 v1 v2 : Value} {dc cc cs : Nat} {Q' : xP} (hd : dc + 1 ≤ d) (hkc : cc ≤ kc) (hks : cs ≤ ks) (hr : (rest.map fun v => v.category).sum ≤ 8) (hM : xM l tX10_in dc cc cs [v0, v1, v2] n ws Q') (k : ∀ r n' ws', Q' r n' ws' → xX l tX10_noNode d mc ms Q (kc - cc) (ks - cs) 11 L (r.toList ++ rest) n' ws') : xX l tX10_noNode d mc ms Q kc ks 8 L (v2 :: v1 :: v0 :: rest) n ws := xcallS (t := tX10_noNode) (As := [v0, v1, v2]) rfl mX10_in k10_78 (by decide +kernel) rfl rfl hr hd hkc hks hM k
def oX10_noArc_0 : List xO := [(.iload_n 1, 0, 0), (.iconst 0, 0, 0), (.aload_n 0, 0, 0), (.getfield 82, 10, 2), (.iconst 1, 0, 0), (.isub, 0, 0)]
def oX10_noArc_11 : List xO := [(.ifCond .ne 7, 18, 0), (.iconst 1, 0, 0), (.goto 4, 19, 0)]
def oX10_noArc_18 : List xO := [(.iconst 0, 0, 0)]
def oX10_noArc_19 : List xO := [(.ireturn, 0, 0)]
def AX10_noArc : List (Nat × List xO) := [(0, oX10_noArc_0), (11, oX10_noArc_11), (18, oX10_noArc_18), (19, oX10_noArc_19)]
theorem aX10_noArc : xTok tX10_noArc AX10_noArc = true := by decide +kernel
theorem rX10_noArc : tX10_noArc.2.2.2.2 = (some .boolean) := rfl
theorem cX10_noArc_8 {l : Launch} {d mc ms : Nat} {Q : xP} {kc ks n : Nat} {L : xL} {rest : List Value} {ws : xW} {v0 v1 v2 : Value} {dc cc cs : Nat} {Q' : xP} (hd : dc + 1 ≤ d) (hkc : cc ≤ kc) (hks : cs ≤ ks) (hr : (rest.map fun v => v.category).sum ≤ 8) (hM : xM l tX10_in dc cc cs [v0, v1, v2] n ws Q') (k : ∀ r n' ws', Q' r n' ws' → xX l tX10_noArc d mc ms Q (kc - cc) (ks - cs) 11 L (r.toList ++ rest) n' ws') : xX l tX10_noArc d mc ms Q kc ks 8 L (v2 :: v1 :: v0 :: rest) n ws := xcallS (t := tX10_noArc) (As := [v0, v1, v2]) rfl mX10_in k10_78 (by decide +kernel) rfl rfl hr hd hkc hks hM k
def oX10_noGood_0 : List xO := [(.iload_n 1, 0, 0), (.iconst 0, 0, 0), (.aload_n 0, 0, 0), (.getfield 85, 10, 7), (.iconst 1, 0, 0), (.isub, 0, 0)]
def oX10_noGood_11 : List xO := [(.ifCond .ne 7, 18, 0), (.iconst 1, 0, 0), (.goto 4, 19, 0)]
def oX10_noGood_18 : List xO := [(.iconst 0, 0, 0)]
def oX10_noGood_19 : List xO := [(.ireturn, 0, 0)]
def AX10_noGood : List (Nat × List xO) := [(0, oX10_noGood_0), (11, oX10_noGood_11), (18, oX10_noGood_18), (19, oX10_noGood_19)]
theorem aX10_noGood : xTok tX10_noGood AX10_noGood = true := by decide +kernel
theorem rX10_noGood : tX10_noGood.2.2.2.2 = (some .boolean) := rfl
theorem cX10_noGood_8 {l : Launch} {d mc ms : Nat} {Q : xP} {kc ks n : Nat} {L : xL} {rest : List Value} {ws : xW} {v0 v1 v2 : Value} {dc cc cs : Nat} {Q' : xP} (hd : dc + 1 ≤ d) (hkc : cc ≤ kc) (hks : cs ≤ ks) (hr : (rest.map fun v => v.category).sum ≤ 8) (hM : xM l tX10_in dc cc cs [v0, v1, v2] n ws Q') (k : ∀ r n' ws', Q' r n' ws' → xX l tX10_noGood d mc ms Q (kc - cc) (ks - cs) 11 L (r.toList ++ rest) n' ws') : xX l tX10_noGood d mc ms Q kc ks 8 L (v2 :: v1 :: v0 :: rest) n ws := xcallS (t := tX10_noGood) (As := [v0, v1, v2]) rfl mX10_in k10_78 (by decide +kernel) rfl rfl hr hd hkc hks hM k
def oX10_node_0 : List xO := [(.aload_n 0, 0, 0), (.iconst 0, 0, 0), (.putfield 1, 10, 0), (.aload_n 0, 0, 0), (.getfield 75, 10, 1), (.bipush 10, 0, 0), (.if_icmp .ne 6, 17, 0), (.bipush (-3), 0, 0), (.ireturn, 0, 0)]
def oX10_node_17 : List xO := [(.aload_n 0, 0, 0), (.dup, 0, 0), (.getfield 75, 10, 1), (.iconst 1, 0, 0), (.iadd, 0, 0), (.putfield 75, 10, 1), (.aload_n 0, 0, 0), (.getfield 75, 10, 1), (.iconst 1, 0, 0), (.isub, 0, 0), (.ireturn, 0, 0)]
def AX10_node : List (Nat × List xO) := [(0, oX10_node_0), (17, oX10_node_17)]
theorem aX10_node : xTok tX10_node AX10_node = true := by decide +kernel
theorem rX10_node : tX10_node.2.2.2.2 = (some .int) := rfl
def oX10_arc_0 : List xO := [(.aload_n 0, 0, 0), (.iconst 0, 0, 0), (.putfield 1, 10, 0), (.aload_n 0, 0, 0), (.iload_n 1, 0, 0)]
def oX10_arc_10 : List xO := [(.ifCond .ne 38, 48, 0), (.aload_n 0, 0, 0), (.iload_n 2, 0, 0)]
def oX10_arc_18 : List xO := [(.ifCond .ne 30, 48, 0), (.iload_n 1, 0, 0), (.iload_n 2, 0, 0), (.if_icmp .eq 25, 48, 0), (.iload_n 3, 0, 0), (.iconst 0, 0, 0), (.sipush 1000, 0, 0)]
def oX10_arc_34 : List xO := [(.ifCond .eq 14, 48, 0), (.iload 4, 0, 0), (.iconst 0, 0, 0), (.bipush 100, 0, 0)]
def oX10_arc_45 : List xO := [(.ifCond .ne 6, 51, 0)]
def oX10_arc_48 : List xO := [(.bipush (-2), 0, 0), (.ireturn, 0, 0)]
def oX10_arc_51 : List xO := [(.aload_n 0, 0, 0), (.getfield 82, 10, 2), (.bipush 24, 0, 0), (.if_icmp .ne 6, 63, 0), (.bipush (-3), 0, 0), (.ireturn, 0, 0)]
def oX10_arc_63 : List xO := [(.aload_n 0, 0, 0), (.getfield 13, 10, 3), (.aload_n 0, 0, 0), (.getfield 82, 10, 2), (.iload_n 1, 0, 0), (.iastore, 0, 0), (.aload_n 0, 0, 0), (.getfield 17, 10, 4), (.aload_n 0, 0, 0), (.getfield 82, 10, 2), (.iload_n 2, 0, 0), (.iastore, 0, 0), (.aload_n 0, 0, 0), (.getfield 20, 10, 5), (.aload_n 0, 0, 0), (.getfield 82, 10, 2), (.iload_n 3, 0, 0), (.iastore, 0, 0), (.aload_n 0, 0, 0), (.getfield 23, 10, 6), (.aload_n 0, 0, 0), (.getfield 82, 10, 2), (.iload 4, 0, 0), (.iastore, 0, 0), (.aload_n 0, 0, 0), (.dup, 0, 0), (.getfield 82, 10, 2), (.iconst 1, 0, 0), (.iadd, 0, 0), (.putfield 82, 10, 2), (.aload_n 0, 0, 0)]
def oX10_arc_118 : List xO := [(.aload_n 0, 0, 0), (.getfield 82, 10, 2), (.iconst 1, 0, 0), (.isub, 0, 0), (.ireturn, 0, 0)]
def AX10_arc : List (Nat × List xO) := [(0, oX10_arc_0), (10, oX10_arc_10), (18, oX10_arc_18), (34, oX10_arc_34), (45, oX10_arc_45), (48, oX10_arc_48), (51, oX10_arc_51), (63, oX10_arc_63), (118, oX10_arc_118)]
theorem aX10_arc : xTok tX10_arc AX10_arc = true := by decide +kernel
theorem rX10_arc : tX10_arc.2.2.2.2 = (some .int) := rfl
theorem cX10_arc_7 {l : Launch} {d mc ms : Nat} {Q : xP} {kc ks n : Nat} {L : xL} {rest : List Value} {ws : xW} {v0 : Value} {b : Nat} {vs : List Value} (hw : ws b = some (10, .inr (.inr (.inr vs)))) {dc cc cs : Nat} {Q' : xP} (hd : dc + 1 ≤ d) (hkc : cc ≤ kc) (hks : cs ≤ ks) (hr : (rest.map fun v => v.category).sum ≤ 8) (hM : xM l tX10_noNode dc cc cs [.ref b, v0] n ws Q') (k : ∀ r n' ws', Q' r n' ws' → xX l tX10_arc d mc ms Q (kc - cc) (ks - cs) 10 L (r.toList ++ rest) n' ws') : xX l tX10_arc d mc ms Q kc ks 7 L (v0 :: .ref b :: rest) n ws := xcallV (t := tX10_arc) (As := [v0]) rfl mX10_noNode k10_88 (by decide +kernel) rfl rfl hw (by decide) hr hd hkc hks hM k
theorem cX10_arc_15 {l : Launch} {d mc ms : Nat} {Q : xP} {kc ks n : Nat} {L : xL} {rest : List Value} {ws : xW} {v0 : Value} {b : Nat} {vs : List Value} (hw : ws b = some (10, .inr (.inr (.inr vs)))) {dc cc cs : Nat} {Q' : xP} (hd : dc + 1 ≤ d) (hkc : cc ≤ kc) (hks : cs ≤ ks) (hr : (rest.map fun v => v.category).sum ≤ 8) (hM : xM l tX10_noNode dc cc cs [.ref b, v0] n ws Q') (k : ∀ r n' ws', Q' r n' ws' → xX l tX10_arc d mc ms Q (kc - cc) (ks - cs) 18 L (r.toList ++ rest) n' ws') : xX l tX10_arc d mc ms Q kc ks 15 L (v0 :: .ref b :: rest) n ws := xcallV (t := tX10_arc) (As := [v0]) rfl mX10_noNode k10_88 (by decide +kernel) rfl rfl hw (by decide) hr hd hkc hks hM k
theorem cX10_arc_31 {l : Launch} {d mc ms : Nat} {Q : xP} {kc ks n : Nat} {L : xL} {rest : List Value} {ws : xW} {v0 v1 v2 : Value} {dc cc cs : Nat} {Q' : xP} (hd : dc + 1 ≤ d) (hkc : cc ≤ kc) (hks : cs ≤ ks) (hr : (rest.map fun v => v.category).sum ≤ 8) (hM : xM l tX10_in dc cc cs [v0, v1, v2] n ws Q') (k : ∀ r n' ws', Q' r n' ws' → xX l tX10_arc d mc ms Q (kc - cc) (ks - cs) 34 L (r.toList ++ rest) n' ws') : xX l tX10_arc d mc ms Q kc ks 31 L (v2 :: v1 :: v0 :: rest) n ws := xcallS (t := tX10_arc) (As := [v0, v1, v2]) rfl mX10_in k10_78 (by decide +kernel) rfl rfl hr hd hkc hks hM k
theorem cX10_arc_42 {l : Launch} {d mc ms : Nat} {Q : xP} {kc ks n : Nat} {L : xL} {rest : List Value} {ws : xW} {v0 v1 v2 : Value} {dc cc cs : Nat} {Q' : xP} (hd : dc + 1 ≤ d) (hkc : cc ≤ kc) (hks : cs ≤ ks) (hr : (rest.map fun v => v.category).sum ≤ 8) (hM : xM l tX10_in dc cc cs [v0, v1, v2] n ws Q') (k : ∀ r n' ws', Q' r n' ws' → xX l tX10_arc d mc ms Q (kc - cc) (ks - cs) 45 L (r.toList ++ rest) n' ws') : xX l tX10_arc d mc ms Q kc ks 42 L (v2 :: v1 :: v0 :: rest) n ws := xcallS (t := tX10_arc) (As := [v0, v1, v2]) rfl mX10_in k10_78 (by decide +kernel) rfl rfl hr hd hkc hks hM k
theorem cX10_arc_115 {l : Launch} {d mc ms : Nat} {Q : xP} {kc ks n : Nat} {L : xL} {rest : List Value} {ws : xW} {b : Nat} {vs : List Value} (hw : ws b = some (10, .inr (.inr (.inr vs)))) {dc cc cs : Nat} {Q' : xP} (hd : dc + 1 ≤ d) (hkc : cc ≤ kc) (hks : cs ≤ ks) (hr : (rest.map fun v => v.category).sum ≤ 8) (hM : xM l tX10_layWays dc cc cs [.ref b] n ws Q') (k : ∀ r n' ws', Q' r n' ws' → xX l tX10_arc d mc ms Q (kc - cc) (ks - cs) 118 L (r.toList ++ rest) n' ws') : xX l tX10_arc d mc ms Q kc ks 115 L (.ref b :: rest) n ws := xcallV (t := tX10_arc) (As := []) rfl mX10_layWays k10_92 (by decide +kernel) rfl rfl hw (by decide) hr hd hkc hks hM k
def oX10_capacity_0 : List xO := [(.aload_n 0, 0, 0), (.iconst 0, 0, 0), (.putfield 1, 10, 0), (.aload_n 0, 0, 0), (.iload_n 1, 0, 0)]
def oX10_capacity_10 : List xO := [(.ifCond .ne 14, 24, 0), (.iload_n 2, 0, 0), (.iconst 0, 0, 0), (.sipush 1000, 0, 0)]
def oX10_capacity_21 : List xO := [(.ifCond .ne 6, 27, 0)]
def oX10_capacity_24 : List xO := [(.bipush (-2), 0, 0), (.ireturn, 0, 0)]
def oX10_capacity_27 : List xO := [(.aload_n 0, 0, 0), (.getfield 20, 10, 5), (.iload_n 1, 0, 0), (.iaload, 0, 0), (.istore_n 3, 0, 0), (.aload_n 0, 0, 0), (.getfield 20, 10, 5), (.iload_n 1, 0, 0), (.iload_n 2, 0, 0), (.iastore, 0, 0), (.iload_n 3, 0, 0), (.ireturn, 0, 0)]
def AX10_capacity : List (Nat × List xO) := [(0, oX10_capacity_0), (10, oX10_capacity_10), (21, oX10_capacity_21), (24, oX10_capacity_24), (27, oX10_capacity_27)]
theorem aX10_capacity : xTok tX10_capacity AX10_capacity = true := by decide +kernel
theorem rX10_capacity : tX10_capacity.2.2.2.2 = (some .int) := rfl
theorem cX10_capacity_7 {l : Launch} {d mc ms : Nat} {Q : xP} {kc ks n : Nat} {L : xL} {rest : List Value} {ws : xW} {v0 : Value} {b : Nat} {vs : List Value} (hw : ws b = some (10, .inr (.inr (.inr vs)))) {dc cc cs : Nat} {Q' : xP} (hd : dc + 1 ≤ d) (hkc : cc ≤ kc) (hks : cs ≤ ks) (hr : (rest.map fun v => v.category).sum ≤ 8) (hM : xM l tX10_noArc dc cc cs [.ref b, v0] n ws Q') (k : ∀ r n' ws', Q' r n' ws' → xX l tX10_capacity d mc ms Q (kc - cc) (ks - cs) 10 L (r.toList ++ rest) n' ws') : xX l tX10_capacity d mc ms Q kc ks 7 L (v0 :: .ref b :: rest) n ws := xcallV (t := tX10_capacity) (As := [v0]) rfl mX10_noArc k10_95 (by decide +kernel) rfl rfl hw (by decide) hr hd hkc hks hM k
theorem cX10_capacity_18 {l : Launch} {d mc ms : Nat} {Q : xP} {kc ks n : Nat} {L : xL} {rest : List Value} {ws : xW} {v0 v1 v2 : Value} {dc cc cs : Nat} {Q' : xP} (hd : dc + 1 ≤ d) (hkc : cc ≤ kc) (hks : cs ≤ ks) (hr : (rest.map fun v => v.category).sum ≤ 8) (hM : xM l tX10_in dc cc cs [v0, v1, v2] n ws Q') (k : ∀ r n' ws', Q' r n' ws' → xX l tX10_capacity d mc ms Q (kc - cc) (ks - cs) 21 L (r.toList ++ rest) n' ws') : xX l tX10_capacity d mc ms Q kc ks 18 L (v2 :: v1 :: v0 :: rest) n ws := xcallS (t := tX10_capacity) (As := [v0, v1, v2]) rfl mX10_in k10_78 (by decide +kernel) rfl rfl hr hd hkc hks hM k
def oX10_cost_0 : List xO := [(.aload_n 0, 0, 0), (.iconst 0, 0, 0), (.putfield 1, 10, 0), (.aload_n 0, 0, 0), (.iload_n 1, 0, 0)]
def oX10_cost_10 : List xO := [(.ifCond .ne 13, 23, 0), (.iload_n 2, 0, 0), (.iconst 0, 0, 0), (.bipush 100, 0, 0)]
def oX10_cost_20 : List xO := [(.ifCond .ne 6, 26, 0)]
def oX10_cost_23 : List xO := [(.bipush (-2), 0, 0), (.ireturn, 0, 0)]
def oX10_cost_26 : List xO := [(.aload_n 0, 0, 0), (.getfield 23, 10, 6), (.iload_n 1, 0, 0), (.iaload, 0, 0), (.istore_n 3, 0, 0), (.aload_n 0, 0, 0), (.getfield 23, 10, 6), (.iload_n 1, 0, 0), (.iload_n 2, 0, 0), (.iastore, 0, 0), (.aload_n 0, 0, 0)]
def oX10_cost_44 : List xO := [(.iload_n 3, 0, 0), (.ireturn, 0, 0)]
def AX10_cost : List (Nat × List xO) := [(0, oX10_cost_0), (10, oX10_cost_10), (20, oX10_cost_20), (23, oX10_cost_23), (26, oX10_cost_26), (44, oX10_cost_44)]
theorem aX10_cost : xTok tX10_cost AX10_cost = true := by decide +kernel
theorem rX10_cost : tX10_cost.2.2.2.2 = (some .int) := rfl
theorem cX10_cost_7 {l : Launch} {d mc ms : Nat} {Q : xP} {kc ks n : Nat} {L : xL} {rest : List Value} {ws : xW} {v0 : Value} {b : Nat} {vs : List Value} (hw : ws b = some (10, .inr (.inr (.inr vs)))) {dc cc cs : Nat} {Q' : xP} (hd : dc + 1 ≤ d) (hkc : cc ≤ kc) (hks : cs ≤ ks) (hr : (rest.map fun v => v.category).sum ≤ 8) (hM : xM l tX10_noArc dc cc cs [.ref b, v0] n ws Q') (k : ∀ r n' ws', Q' r n' ws' → xX l tX10_cost d mc ms Q (kc - cc) (ks - cs) 10 L (r.toList ++ rest) n' ws') : xX l tX10_cost d mc ms Q kc ks 7 L (v0 :: .ref b :: rest) n ws := xcallV (t := tX10_cost) (As := [v0]) rfl mX10_noArc k10_95 (by decide +kernel) rfl rfl hw (by decide) hr hd hkc hks hM k
theorem cX10_cost_17 {l : Launch} {d mc ms : Nat} {Q : xP} {kc ks n : Nat} {L : xL} {rest : List Value} {ws : xW} {v0 v1 v2 : Value} {dc cc cs : Nat} {Q' : xP} (hd : dc + 1 ≤ d) (hkc : cc ≤ kc) (hks : cs ≤ ks) (hr : (rest.map fun v => v.category).sum ≤ 8) (hM : xM l tX10_in dc cc cs [v0, v1, v2] n ws Q') (k : ∀ r n' ws', Q' r n' ws' → xX l tX10_cost d mc ms Q (kc - cc) (ks - cs) 20 L (r.toList ++ rest) n' ws') : xX l tX10_cost d mc ms Q kc ks 17 L (v2 :: v1 :: v0 :: rest) n ws := xcallS (t := tX10_cost) (As := [v0, v1, v2]) rfl mX10_in k10_78 (by decide +kernel) rfl rfl hr hd hkc hks hM k
theorem cX10_cost_41 {l : Launch} {d mc ms : Nat} {Q : xP} {kc ks n : Nat} {L : xL} {rest : List Value} {ws : xW} {b : Nat} {vs : List Value} (hw : ws b = some (10, .inr (.inr (.inr vs)))) {dc cc cs : Nat} {Q' : xP} (hd : dc + 1 ≤ d) (hkc : cc ≤ kc) (hks : cs ≤ ks) (hr : (rest.map fun v => v.category).sum ≤ 8) (hM : xM l tX10_layWays dc cc cs [.ref b] n ws Q') (k : ∀ r n' ws', Q' r n' ws' → xX l tX10_cost d mc ms Q (kc - cc) (ks - cs) 44 L (r.toList ++ rest) n' ws') : xX l tX10_cost d mc ms Q kc ks 41 L (.ref b :: rest) n ws := xcallV (t := tX10_cost) (As := []) rfl mX10_layWays k10_92 (by decide +kernel) rfl rfl hw (by decide) hr hd hkc hks hM k
def oX10_good_0 : List xO := [(.aload_n 0, 0, 0), (.iconst 0, 0, 0), (.putfield 1, 10, 0), (.aload_n 0, 0, 0), (.iload_n 1, 0, 0)]
def oX10_good_10 : List xO := [(.ifCond .ne 39, 49, 0), (.aload_n 0, 0, 0), (.iload_n 2, 0, 0)]
def oX10_good_18 : List xO := [(.ifCond .ne 31, 49, 0), (.iload_n 1, 0, 0), (.iload_n 2, 0, 0), (.if_icmp .eq 26, 49, 0), (.iload_n 3, 0, 0), (.iconst 1, 0, 0), (.sipush 1000, 0, 0)]
def oX10_good_34 : List xO := [(.ifCond .eq 15, 49, 0), (.iload 4, 0, 0), (.iconst 0, 0, 0), (.sipush 1000, 0, 0)]
def oX10_good_46 : List xO := [(.ifCond .ne 6, 52, 0)]
def oX10_good_49 : List xO := [(.bipush (-2), 0, 0), (.ireturn, 0, 0)]
def oX10_good_52 : List xO := [(.aload_n 0, 0, 0), (.getfield 85, 10, 7), (.bipush 6, 0, 0), (.if_icmp .ne 6, 64, 0), (.bipush (-3), 0, 0), (.ireturn, 0, 0)]
def oX10_good_64 : List xO := [(.aload_n 0, 0, 0), (.getfield 26, 10, 8), (.aload_n 0, 0, 0), (.getfield 85, 10, 7), (.iload_n 1, 0, 0), (.iastore, 0, 0), (.aload_n 0, 0, 0), (.getfield 29, 10, 9), (.aload_n 0, 0, 0), (.getfield 85, 10, 7), (.iload_n 2, 0, 0), (.iastore, 0, 0), (.aload_n 0, 0, 0), (.getfield 32, 10, 10), (.aload_n 0, 0, 0), (.getfield 85, 10, 7), (.iload_n 3, 0, 0), (.iastore, 0, 0), (.aload_n 0, 0, 0), (.getfield 35, 10, 11), (.aload_n 0, 0, 0), (.getfield 85, 10, 7), (.iload 4, 0, 0), (.iastore, 0, 0), (.aload_n 0, 0, 0), (.getfield 38, 10, 12), (.aload_n 0, 0, 0), (.getfield 85, 10, 7), (.iconst (-1), 0, 0), (.iastore, 0, 0), (.aload_n 0, 0, 0), (.dup, 0, 0), (.getfield 85, 10, 7), (.iconst 1, 0, 0), (.iadd, 0, 0), (.putfield 85, 10, 7), (.aload_n 0, 0, 0)]
def oX10_good_129 : List xO := [(.aload_n 0, 0, 0), (.getfield 85, 10, 7), (.iconst 1, 0, 0), (.isub, 0, 0), (.ireturn, 0, 0)]
def AX10_good : List (Nat × List xO) := [(0, oX10_good_0), (10, oX10_good_10), (18, oX10_good_18), (34, oX10_good_34), (46, oX10_good_46), (49, oX10_good_49), (52, oX10_good_52), (64, oX10_good_64), (129, oX10_good_129)]
theorem aX10_good : xTok tX10_good AX10_good = true := by decide +kernel
theorem rX10_good : tX10_good.2.2.2.2 = (some .int) := rfl
theorem cX10_good_7 {l : Launch} {d mc ms : Nat} {Q : xP} {kc ks n : Nat} {L : xL} {rest : List Value} {ws : xW} {v0 : Value} {b : Nat} {vs : List Value} (hw : ws b = some (10, .inr (.inr (.inr vs)))) {dc cc cs : Nat} {Q' : xP} (hd : dc + 1 ≤ d) (hkc : cc ≤ kc) (hks : cs ≤ ks) (hr : (rest.map fun v => v.category).sum ≤ 8) (hM : xM l tX10_noNode dc cc cs [.ref b, v0] n ws Q') (k : ∀ r n' ws', Q' r n' ws' → xX l tX10_good d mc ms Q (kc - cc) (ks - cs) 10 L (r.toList ++ rest) n' ws') : xX l tX10_good d mc ms Q kc ks 7 L (v0 :: .ref b :: rest) n ws := xcallV (t := tX10_good) (As := [v0]) rfl mX10_noNode k10_88 (by decide +kernel) rfl rfl hw (by decide) hr hd hkc hks hM k
theorem cX10_good_15 {l : Launch} {d mc ms : Nat} {Q : xP} {kc ks n : Nat} {L : xL} {rest : List Value} {ws : xW} {v0 : Value} {b : Nat} {vs : List Value} (hw : ws b = some (10, .inr (.inr (.inr vs)))) {dc cc cs : Nat} {Q' : xP} (hd : dc + 1 ≤ d) (hkc : cc ≤ kc) (hks : cs ≤ ks) (hr : (rest.map fun v => v.category).sum ≤ 8) (hM : xM l tX10_noNode dc cc cs [.ref b, v0] n ws Q') (k : ∀ r n' ws', Q' r n' ws' → xX l tX10_good d mc ms Q (kc - cc) (ks - cs) 18 L (r.toList ++ rest) n' ws') : xX l tX10_good d mc ms Q kc ks 15 L (v0 :: .ref b :: rest) n ws := xcallV (t := tX10_good) (As := [v0]) rfl mX10_noNode k10_88 (by decide +kernel) rfl rfl hw (by decide) hr hd hkc hks hM k
theorem cX10_good_31 {l : Launch} {d mc ms : Nat} {Q : xP} {kc ks n : Nat} {L : xL} {rest : List Value} {ws : xW} {v0 v1 v2 : Value} {dc cc cs : Nat} {Q' : xP} (hd : dc + 1 ≤ d) (hkc : cc ≤ kc) (hks : cs ≤ ks) (hr : (rest.map fun v => v.category).sum ≤ 8) (hM : xM l tX10_in dc cc cs [v0, v1, v2] n ws Q') (k : ∀ r n' ws', Q' r n' ws' → xX l tX10_good d mc ms Q (kc - cc) (ks - cs) 34 L (r.toList ++ rest) n' ws') : xX l tX10_good d mc ms Q kc ks 31 L (v2 :: v1 :: v0 :: rest) n ws := xcallS (t := tX10_good) (As := [v0, v1, v2]) rfl mX10_in k10_78 (by decide +kernel) rfl rfl hr hd hkc hks hM k
theorem cX10_good_43 {l : Launch} {d mc ms : Nat} {Q : xP} {kc ks n : Nat} {L : xL} {rest : List Value} {ws : xW} {v0 v1 v2 : Value} {dc cc cs : Nat} {Q' : xP} (hd : dc + 1 ≤ d) (hkc : cc ≤ kc) (hks : cs ≤ ks) (hr : (rest.map fun v => v.category).sum ≤ 8) (hM : xM l tX10_in dc cc cs [v0, v1, v2] n ws Q') (k : ∀ r n' ws', Q' r n' ws' → xX l tX10_good d mc ms Q (kc - cc) (ks - cs) 46 L (r.toList ++ rest) n' ws') : xX l tX10_good d mc ms Q kc ks 43 L (v2 :: v1 :: v0 :: rest) n ws := xcallS (t := tX10_good) (As := [v0, v1, v2]) rfl mX10_in k10_78 (by decide +kernel) rfl rfl hr hd hkc hks hM k
theorem cX10_good_126 {l : Launch} {d mc ms : Nat} {Q : xP} {kc ks n : Nat} {L : xL} {rest : List Value} {ws : xW} {b : Nat} {vs : List Value} (hw : ws b = some (10, .inr (.inr (.inr vs)))) {dc cc cs : Nat} {Q' : xP} (hd : dc + 1 ≤ d) (hkc : cc ≤ kc) (hks : cs ≤ ks) (hr : (rest.map fun v => v.category).sum ≤ 8) (hM : xM l tX10_layWays dc cc cs [.ref b] n ws Q') (k : ∀ r n' ws', Q' r n' ws' → xX l tX10_good d mc ms Q (kc - cc) (ks - cs) 129 L (r.toList ++ rest) n' ws') : xX l tX10_good d mc ms Q kc ks 126 L (.ref b :: rest) n ws := xcallV (t := tX10_good) (As := []) rfl mX10_layWays k10_92 (by decide +kernel) rfl rfl hw (by decide) hr hd hkc hks hM k
def oX10_demand_0 : List xO := [(.aload_n 0, 0, 0), (.iconst 0, 0, 0), (.putfield 1, 10, 0), (.aload_n 0, 0, 0), (.iload_n 1, 0, 0)]
def oX10_demand_10 : List xO := [(.ifCond .ne 14, 24, 0), (.iload_n 2, 0, 0), (.iconst 1, 0, 0), (.sipush 1000, 0, 0)]
def oX10_demand_21 : List xO := [(.ifCond .ne 6, 27, 0)]
def oX10_demand_24 : List xO := [(.bipush (-2), 0, 0), (.ireturn, 0, 0)]
def oX10_demand_27 : List xO := [(.aload_n 0, 0, 0), (.getfield 32, 10, 10), (.iload_n 1, 0, 0), (.iaload, 0, 0), (.istore_n 3, 0, 0), (.aload_n 0, 0, 0), (.getfield 32, 10, 10), (.iload_n 1, 0, 0), (.iload_n 2, 0, 0), (.iastore, 0, 0), (.iload_n 3, 0, 0), (.ireturn, 0, 0)]
def AX10_demand : List (Nat × List xO) := [(0, oX10_demand_0), (10, oX10_demand_10), (21, oX10_demand_21), (24, oX10_demand_24), (27, oX10_demand_27)]
theorem aX10_demand : xTok tX10_demand AX10_demand = true := by decide +kernel
theorem rX10_demand : tX10_demand.2.2.2.2 = (some .int) := rfl
theorem cX10_demand_7 {l : Launch} {d mc ms : Nat} {Q : xP} {kc ks n : Nat} {L : xL} {rest : List Value} {ws : xW} {v0 : Value} {b : Nat} {vs : List Value} (hw : ws b = some (10, .inr (.inr (.inr vs)))) {dc cc cs : Nat} {Q' : xP} (hd : dc + 1 ≤ d) (hkc : cc ≤ kc) (hks : cs ≤ ks) (hr : (rest.map fun v => v.category).sum ≤ 8) (hM : xM l tX10_noGood dc cc cs [.ref b, v0] n ws Q') (k : ∀ r n' ws', Q' r n' ws' → xX l tX10_demand d mc ms Q (kc - cc) (ks - cs) 10 L (r.toList ++ rest) n' ws') : xX l tX10_demand d mc ms Q kc ks 7 L (v0 :: .ref b :: rest) n ws := xcallV (t := tX10_demand) (As := [v0]) rfl mX10_noGood k10_98 (by decide +kernel) rfl rfl hw (by decide) hr hd hkc hks hM k
theorem cX10_demand_18 {l : Launch} {d mc ms : Nat} {Q : xP} {kc ks n : Nat} {L : xL} {rest : List Value} {ws : xW} {v0 v1 v2 : Value} {dc cc cs : Nat} {Q' : xP} (hd : dc + 1 ≤ d) (hkc : cc ≤ kc) (hks : cs ≤ ks) (hr : (rest.map fun v => v.category).sum ≤ 8) (hM : xM l tX10_in dc cc cs [v0, v1, v2] n ws Q') (k : ∀ r n' ws', Q' r n' ws' → xX l tX10_demand d mc ms Q (kc - cc) (ks - cs) 21 L (r.toList ++ rest) n' ws') : xX l tX10_demand d mc ms Q kc ks 18 L (v2 :: v1 :: v0 :: rest) n ws := xcallS (t := tX10_demand) (As := [v0, v1, v2]) rfl mX10_in k10_78 (by decide +kernel) rfl rfl hr hd hkc hks hM k
def oX10_worth_0 : List xO := [(.aload_n 0, 0, 0), (.iconst 0, 0, 0), (.putfield 1, 10, 0), (.aload_n 0, 0, 0), (.iload_n 1, 0, 0)]
def oX10_worth_10 : List xO := [(.ifCond .ne 14, 24, 0), (.iload_n 2, 0, 0), (.iconst 0, 0, 0), (.sipush 1000, 0, 0)]
def oX10_worth_21 : List xO := [(.ifCond .ne 6, 27, 0)]
def oX10_worth_24 : List xO := [(.bipush (-2), 0, 0), (.ireturn, 0, 0)]
def oX10_worth_27 : List xO := [(.aload_n 0, 0, 0), (.getfield 35, 10, 11), (.iload_n 1, 0, 0), (.iaload, 0, 0), (.istore_n 3, 0, 0), (.aload_n 0, 0, 0), (.getfield 35, 10, 11), (.iload_n 1, 0, 0), (.iload_n 2, 0, 0), (.iastore, 0, 0), (.iload_n 3, 0, 0), (.ireturn, 0, 0)]
def AX10_worth : List (Nat × List xO) := [(0, oX10_worth_0), (10, oX10_worth_10), (21, oX10_worth_21), (24, oX10_worth_24), (27, oX10_worth_27)]
theorem aX10_worth : xTok tX10_worth AX10_worth = true := by decide +kernel
theorem rX10_worth : tX10_worth.2.2.2.2 = (some .int) := rfl
theorem cX10_worth_7 {l : Launch} {d mc ms : Nat} {Q : xP} {kc ks n : Nat} {L : xL} {rest : List Value} {ws : xW} {v0 : Value} {b : Nat} {vs : List Value} (hw : ws b = some (10, .inr (.inr (.inr vs)))) {dc cc cs : Nat} {Q' : xP} (hd : dc + 1 ≤ d) (hkc : cc ≤ kc) (hks : cs ≤ ks) (hr : (rest.map fun v => v.category).sum ≤ 8) (hM : xM l tX10_noGood dc cc cs [.ref b, v0] n ws Q') (k : ∀ r n' ws', Q' r n' ws' → xX l tX10_worth d mc ms Q (kc - cc) (ks - cs) 10 L (r.toList ++ rest) n' ws') : xX l tX10_worth d mc ms Q kc ks 7 L (v0 :: .ref b :: rest) n ws := xcallV (t := tX10_worth) (As := [v0]) rfl mX10_noGood k10_98 (by decide +kernel) rfl rfl hw (by decide) hr hd hkc hks hM k
theorem cX10_worth_18 {l : Launch} {d mc ms : Nat} {Q : xP} {kc ks n : Nat} {L : xL} {rest : List Value} {ws : xW} {v0 v1 v2 : Value} {dc cc cs : Nat} {Q' : xP} (hd : dc + 1 ≤ d) (hkc : cc ≤ kc) (hks : cs ≤ ks) (hr : (rest.map fun v => v.category).sum ≤ 8) (hM : xM l tX10_in dc cc cs [v0, v1, v2] n ws Q') (k : ∀ r n' ws', Q' r n' ws' → xX l tX10_worth d mc ms Q (kc - cc) (ks - cs) 21 L (r.toList ++ rest) n' ws') : xX l tX10_worth d mc ms Q kc ks 18 L (v2 :: v1 :: v0 :: rest) n ws := xcallS (t := tX10_worth) (As := [v0, v1, v2]) rfl mX10_in k10_78 (by decide +kernel) rfl rfl hr hd hkc hks hM k
def oX10_layWays_0 : List xO := [(.iconst 0, 0, 0), (.istore_n 1, 0, 0)]
def oX10_layWays_2 : List xO := [(.iload_n 1, 0, 0), (.aload_n 0, 0, 0), (.getfield 85, 10, 7), (.if_icmp .ge 37, 44, 0), (.aload_n 0, 0, 0), (.getfield 41, 10, 13), (.iload_n 1, 0, 0), (.iconst 0, 0, 0), (.iastore, 0, 0), (.aload_n 0, 0, 0), (.iload_n 1, 0, 0), (.aload_n 0, 0, 0), (.getfield 26, 10, 8), (.iload_n 1, 0, 0), (.iaload, 0, 0), (.iconst 1, 0, 0), (.aload_n 0, 0, 0), (.getfield 26, 10, 8), (.iload_n 1, 0, 0), (.iaload, 0, 0), (.ishl, 0, 0), (.iconst 0, 0, 0), (.iconst 0, 0, 0)]
def oX10_layWays_38 : List xO := [(.iinc 1 1, 0, 0), (.goto (-39), 2, 0)]
def oX10_layWays_44 : List xO := [(.return_, 0, 0)]
def AX10_layWays : List (Nat × List xO) := [(0, oX10_layWays_0), (2, oX10_layWays_2), (38, oX10_layWays_38), (44, oX10_layWays_44)]
theorem aX10_layWays : xTok tX10_layWays AX10_layWays = true := by decide +kernel
theorem rX10_layWays : tX10_layWays.2.2.2.2 = none := rfl
theorem cX10_layWays_35 {l : Launch} {d mc ms : Nat} {Q : xP} {kc ks n : Nat} {L : xL} {rest : List Value} {ws : xW} {v0 v1 v2 v3 v4 v5 : Value} {dc cc cs : Nat} {Q' : xP} (hd : dc + 1 ≤ d) (hkc : cc ≤ kc) (hks : cs ≤ ks) (hr : (rest.map fun v => v.category).sum ≤ 8) (hM : xM l tX10_goOn dc cc cs [v0, v1, v2, v3, v4, v5] n ws Q') (k : ∀ r n' ws', Q' r n' ws' → xX l tX10_layWays d mc ms Q (kc - cc) (ks - cs) 38 L (r.toList ++ rest) n' ws') : xX l tX10_layWays d mc ms Q kc ks 35 L (v5 :: v4 :: v3 :: v2 :: v1 :: v0 :: rest) n ws := xcallS (t := tX10_layWays) (As := [v0, v1, v2, v3, v4, v5]) rfl mX10_goOn k10_101 (by decide +kernel) rfl rfl hr hd hkc hks hM k
def oX10_goOn_0 : List xO := [(.iload_n 2, 0, 0), (.aload_n 0, 0, 0), (.getfield 29, 10, 9), (.iload_n 1, 0, 0), (.iaload, 0, 0), (.if_icmp .ne 13, 20, 0), (.aload_n 0, 0, 0), (.iload_n 1, 0, 0), (.iload 4, 0, 0), (.iload 5, 0, 0)]
def oX10_goOn_19 : List xO := [(.return_, 0, 0)]
def oX10_goOn_20 : List xO := [(.iconst 0, 0, 0), (.istore 6, 0, 0)]
def oX10_goOn_23 : List xO := [(.iload 6, 0, 0), (.aload_n 0, 0, 0), (.getfield 82, 10, 2), (.if_icmp .ge 139, 168, 0), (.aload_n 0, 0, 0), (.getfield 13, 10, 3), (.iload 6, 0, 0), (.iaload, 0, 0), (.iload_n 2, 0, 0), (.if_icmp .ne 21, 61, 0), (.iload_n 3, 0, 0), (.aload_n 0, 0, 0), (.getfield 17, 10, 4), (.iload 6, 0, 0), (.iaload, 0, 0), (.ishr, 0, 0), (.iconst 1, 0, 0), (.iand, 0, 0), (.ifCond .ne 7, 61, 0), (.iconst 1, 0, 0), (.goto 4, 62, 0)]
def oX10_goOn_61 : List xO := [(.iconst 0, 0, 0)]
def oX10_goOn_62 : List xO := [(.istore 7, 0, 0), (.aload_n 0, 0, 0), (.getfield 41, 10, 13), (.iload_n 1, 0, 0), (.iaload, 0, 0), (.iconst 5, 0, 0), (.if_icmp .ne 32, 103, 0), (.iload 5, 0, 0), (.aload_n 0, 0, 0), (.getfield 23, 10, 6), (.iload 6, 0, 0), (.iaload, 0, 0), (.iadd, 0, 0), (.aload_n 0, 0, 0), (.getfield 50, 10, 16), (.iconst 5, 0, 0), (.iload_n 1, 0, 0), (.imul, 0, 0), (.iconst 5, 0, 0), (.iadd, 0, 0), (.iconst 1, 0, 0), (.isub, 0, 0), (.iaload, 0, 0), (.if_icmp .le 7, 103, 0), (.iconst 1, 0, 0), (.goto 4, 104, 0)]
def oX10_goOn_103 : List xO := [(.iconst 0, 0, 0)]
def oX10_goOn_104 : List xO := [(.istore 8, 0, 0), (.iload 7, 0, 0), (.ifCond .eq 54, 162, 0), (.iload 8, 0, 0), (.ifCond .ne 49, 162, 0), (.aload_n 0, 0, 0), (.getfield 53, 10, 17), (.iload 4, 0, 0), (.iload 6, 0, 0), (.iastore, 0, 0), (.aload_n 0, 0, 0), (.iload_n 1, 0, 0), (.aload_n 0, 0, 0), (.getfield 17, 10, 4), (.iload 6, 0, 0), (.iaload, 0, 0), (.iload_n 3, 0, 0), (.iconst 1, 0, 0), (.aload_n 0, 0, 0), (.getfield 17, 10, 4), (.iload 6, 0, 0), (.iaload, 0, 0), (.ishl, 0, 0), (.ior, 0, 0), (.iload 4, 0, 0), (.iconst 1, 0, 0), (.iadd, 0, 0), (.iload 5, 0, 0), (.aload_n 0, 0, 0), (.getfield 23, 10, 6), (.iload 6, 0, 0), (.iaload, 0, 0), (.iadd, 0, 0)]
def oX10_goOn_162 : List xO := [(.iinc 6 1, 0, 0), (.goto (-142), 23, 0)]
def oX10_goOn_168 : List xO := [(.return_, 0, 0)]
def AX10_goOn : List (Nat × List xO) := [(0, oX10_goOn_0), (19, oX10_goOn_19), (20, oX10_goOn_20), (23, oX10_goOn_23), (61, oX10_goOn_61), (62, oX10_goOn_62), (103, oX10_goOn_103), (104, oX10_goOn_104), (162, oX10_goOn_162), (168, oX10_goOn_168)]
theorem aX10_goOn : xTok tX10_goOn AX10_goOn = true := by decide +kernel
theorem rX10_goOn : tX10_goOn.2.2.2.2 = none := rfl
theorem cX10_goOn_16 {l : Launch} {d mc ms : Nat} {Q : xP} {kc ks n : Nat} {L : xL} {rest : List Value} {ws : xW} {v0 v1 v2 : Value} {b : Nat} {vs : List Value} (hw : ws b = some (10, .inr (.inr (.inr vs)))) {dc cc cs : Nat} {Q' : xP} (hd : dc + 1 ≤ d) (hkc : cc ≤ kc) (hks : cs ≤ ks) (hr : (rest.map fun v => v.category).sum ≤ 8) (hM : xM l tX10_keep dc cc cs [.ref b, v0, v1, v2] n ws Q') (k : ∀ r n' ws', Q' r n' ws' → xX l tX10_goOn d mc ms Q (kc - cc) (ks - cs) 19 L (r.toList ++ rest) n' ws') : xX l tX10_goOn d mc ms Q kc ks 16 L (v2 :: v1 :: v0 :: .ref b :: rest) n ws := xcallV (t := tX10_goOn) (As := [v0, v1, v2]) rfl mX10_keep k10_105 (by decide +kernel) rfl rfl hw (by decide) hr hd hkc hks hM k
theorem cX10_goOn_159 {l : Launch} {d mc ms : Nat} {Q : xP} {kc ks n : Nat} {L : xL} {rest : List Value} {ws : xW} {v0 v1 v2 v3 v4 v5 : Value} {dc cc cs : Nat} {Q' : xP} (hd : dc + 1 ≤ d) (hkc : cc ≤ kc) (hks : cs ≤ ks) (hr : (rest.map fun v => v.category).sum ≤ 8) (hM : xM l tX10_goOn dc cc cs [v0, v1, v2, v3, v4, v5] n ws Q') (k : ∀ r n' ws', Q' r n' ws' → xX l tX10_goOn d mc ms Q (kc - cc) (ks - cs) 162 L (r.toList ++ rest) n' ws') : xX l tX10_goOn d mc ms Q kc ks 159 L (v5 :: v4 :: v3 :: v2 :: v1 :: v0 :: rest) n ws := xcallS (t := tX10_goOn) (As := [v0, v1, v2, v3, v4, v5]) rfl mX10_goOn k10_101 (by decide +kernel) rfl rfl hr hd hkc hks hM k
def oX10_isAhead_0 : List xO := [(.iload_n 2, 0, 0), (.aload_n 0, 0, 0), (.getfield 50, 10, 16), (.iload_n 3, 0, 0), (.iaload, 0, 0), (.if_icmp .eq 19, 26, 0), (.iload_n 2, 0, 0), (.aload_n 0, 0, 0), (.getfield 50, 10, 16), (.iload_n 3, 0, 0), (.iaload, 0, 0), (.if_icmp .ge 7, 24, 0), (.iconst 1, 0, 0), (.goto 4, 25, 0)]
def oX10_isAhead_24 : List xO := [(.iconst 0, 0, 0)]
def oX10_isAhead_25 : List xO := [(.ireturn, 0, 0)]
def oX10_isAhead_26 : List xO := [(.iconst 0, 0, 0), (.istore 4, 0, 0)]
def oX10_isAhead_29 : List xO := [(.aload_n 0, 0, 0), (.getfield 53, 10, 17), (.iload 4, 0, 0), (.iaload, 0, 0), (.aload_n 0, 0, 0), (.getfield 44, 10, 14), (.bipush 10, 0, 0), (.iload_n 3, 0, 0), (.imul, 0, 0), (.iload 4, 0, 0), (.iadd, 0, 0), (.iaload, 0, 0), (.if_icmp .ne 9, 57, 0), (.iinc 4 1, 0, 0), (.goto (-25), 29, 0)]
def oX10_isAhead_57 : List xO := [(.aload_n 0, 0, 0), (.getfield 53, 10, 17), (.iload 4, 0, 0), (.iaload, 0, 0), (.aload_n 0, 0, 0), (.getfield 44, 10, 14), (.bipush 10, 0, 0), (.iload_n 3, 0, 0), (.imul, 0, 0), (.iload 4, 0, 0), (.iadd, 0, 0), (.iaload, 0, 0), (.if_icmp .ge 7, 83, 0), (.iconst 1, 0, 0), (.goto 4, 84, 0)]
def oX10_isAhead_83 : List xO := [(.iconst 0, 0, 0)]
def oX10_isAhead_84 : List xO := [(.ireturn, 0, 0)]
def AX10_isAhead : List (Nat × List xO) := [(0, oX10_isAhead_0), (24, oX10_isAhead_24), (25, oX10_isAhead_25), (26, oX10_isAhead_26), (29, oX10_isAhead_29), (57, oX10_isAhead_57), (83, oX10_isAhead_83), (84, oX10_isAhead_84)]
theorem aX10_isAhead : xTok tX10_isAhead AX10_isAhead = true := by decide +kernel
theorem rX10_isAhead : tX10_isAhead.2.2.2.2 = (some .boolean) := rfl
def oX10_keep_0 : List xO := [(.aload_n 0, 0, 0), (.getfield 41, 10, 13), (.iload_n 1, 0, 0), (.iaload, 0, 0), (.istore 4, 0, 0)]
def oX10_keep_8 : List xO := [(.iload 4, 0, 0), (.ifCond .le 26, 36, 0), (.aload_n 0, 0, 0), (.iload_n 2, 0, 0), (.iload_n 3, 0, 0), (.iconst 5, 0, 0), (.iload_n 1, 0, 0), (.imul, 0, 0), (.iload 4, 0, 0), (.iadd, 0, 0), (.iconst 1, 0, 0), (.isub, 0, 0)]
def oX10_keep_27 : List xO := [(.ifCond .eq 9, 36, 0), (.iinc 4 (-1), 0, 0), (.goto (-25), 8, 0)]
def oX10_keep_36 : List xO := [(.iload 4, 0, 0), (.iconst 5, 0, 0), (.if_icmp .ne 4, 43, 0), (.return_, 0, 0)]
def oX10_keep_43 : List xO := [(.aload_n 0, 0, 0), (.getfield 41, 10, 13), (.iload_n 1, 0, 0), (.iaload, 0, 0), (.iconst 5, 0, 0), (.if_icmp .ge 12, 62, 0), (.aload_n 0, 0, 0), (.getfield 41, 10, 13), (.iload_n 1, 0, 0), (.iaload, 0, 0), (.goto 4, 63, 0)]
def oX10_keep_62 : List xO := [(.iconst 4, 0, 0)]
def oX10_keep_63 : List xO := [(.istore 5, 0, 0), (.iload 5, 0, 0), (.istore 6, 0, 0)]
def oX10_keep_69 : List xO := [(.iload 6, 0, 0), (.iload 4, 0, 0), (.if_icmp .le 93, 166, 0), (.iconst 5, 0, 0), (.iload_n 1, 0, 0), (.imul, 0, 0), (.iload 6, 0, 0), (.iadd, 0, 0), (.istore 7, 0, 0), (.aload_n 0, 0, 0), (.getfield 47, 10, 15), (.iload 7, 0, 0), (.aload_n 0, 0, 0), (.getfield 47, 10, 15), (.iload 7, 0, 0), (.iconst 1, 0, 0), (.isub, 0, 0), (.iaload, 0, 0), (.iastore, 0, 0), (.aload_n 0, 0, 0), (.getfield 50, 10, 16), (.iload 7, 0, 0), (.aload_n 0, 0, 0), (.getfield 50, 10, 16), (.iload 7, 0, 0), (.iconst 1, 0, 0), (.isub, 0, 0), (.iaload, 0, 0), (.iastore, 0, 0), (.iconst 0, 0, 0), (.istore 8, 0, 0)]
def oX10_keep_119 : List xO := [(.iload 8, 0, 0), (.bipush 10, 0, 0), (.if_icmp .ge 37, 160, 0), (.aload_n 0, 0, 0), (.getfield 44, 10, 14), (.bipush 10, 0, 0), (.iload 7, 0, 0), (.imul, 0, 0), (.iload 8, 0, 0), (.iadd, 0, 0), (.aload_n 0, 0, 0), (.getfield 44, 10, 14), (.bipush 10, 0, 0), (.iload 7, 0, 0), (.iconst 1, 0, 0), (.isub, 0, 0), (.imul, 0, 0), (.iload 8, 0, 0), (.iadd, 0, 0), (.iaload, 0, 0), (.iastore, 0, 0), (.iinc 8 1, 0, 0), (.goto (-38), 119, 0)]
def oX10_keep_160 : List xO := [(.iinc 6 (-1), 0, 0), (.goto (-94), 69, 0)]
def oX10_keep_166 : List xO := [(.iconst 5, 0, 0), (.iload_n 1, 0, 0), (.imul, 0, 0), (.iload 4, 0, 0), (.iadd, 0, 0), (.istore 6, 0, 0), (.aload_n 0, 0, 0), (.getfield 47, 10, 15), (.iload 6, 0, 0), (.iload_n 2, 0, 0), (.iastore, 0, 0), (.aload_n 0, 0, 0), (.getfield 50, 10, 16), (.iload 6, 0, 0), (.iload_n 3, 0, 0), (.iastore, 0, 0), (.iconst 0, 0, 0), (.istore 7, 0, 0)]
def oX10_keep_193 : List xO := [(.iload 7, 0, 0), (.iload_n 2, 0, 0), (.if_icmp .ge 29, 225, 0), (.aload_n 0, 0, 0), (.getfield 44, 10, 14), (.bipush 10, 0, 0), (.iload 6, 0, 0), (.imul, 0, 0), (.iload 7, 0, 0), (.iadd, 0, 0), (.aload_n 0, 0, 0), (.getfield 53, 10, 17), (.iload 7, 0, 0), (.iaload, 0, 0), (.iastore, 0, 0), (.iinc 7 1, 0, 0), (.goto (-29), 193, 0)]
def oX10_keep_225 : List xO := [(.aload_n 0, 0, 0), (.getfield 41, 10, 13), (.iload_n 1, 0, 0), (.iload 5, 0, 0), (.iconst 1, 0, 0), (.iadd, 0, 0), (.iastore, 0, 0), (.return_, 0, 0)]
def AX10_keep : List (Nat × List xO) := [(0, oX10_keep_0), (8, oX10_keep_8), (27, oX10_keep_27), (36, oX10_keep_36), (43, oX10_keep_43), (62, oX10_keep_62), (63, oX10_keep_63), (69, oX10_keep_69), (119, oX10_keep_119), (160, oX10_keep_160), (166, oX10_keep_166), (193, oX10_keep_193), (225, oX10_keep_225)]
theorem aX10_keep : xTok tX10_keep AX10_keep = true := by decide +kernel
theorem rX10_keep : tX10_keep.2.2.2.2 = none := rfl
theorem cX10_keep_24 {l : Launch} {d mc ms : Nat} {Q : xP} {kc ks n : Nat} {L : xL} {rest : List Value} {ws : xW} {v0 v1 v2 : Value} {b : Nat} {vs : List Value} (hw : ws b = some (10, .inr (.inr (.inr vs)))) {dc cc cs : Nat} {Q' : xP} (hd : dc + 1 ≤ d) (hkc : cc ≤ kc) (hks : cs ≤ ks) (hr : (rest.map fun v => v.category).sum ≤ 8) (hM : xM l tX10_isAhead dc cc cs [.ref b, v0, v1, v2] n ws Q') (k : ∀ r n' ws', Q' r n' ws' → xX l tX10_keep d mc ms Q (kc - cc) (ks - cs) 27 L (r.toList ++ rest) n' ws') : xX l tX10_keep d mc ms Q kc ks 24 L (v2 :: v1 :: v0 :: .ref b :: rest) n ws := xcallV (t := tX10_keep) (As := [v0, v1, v2]) rfl mX10_isAhead k10_109 (by decide +kernel) rfl rfl hw (by decide) hr hd hkc hks hM k
def oX10_ways_0 : List xO := [(.aload_n 0, 0, 0), (.iconst 0, 0, 0), (.putfield 1, 10, 0), (.aload_n 0, 0, 0), (.iload_n 1, 0, 0)]
def oX10_ways_10 : List xO := [(.ifCond .eq 8, 18, 0), (.bipush (-2), 0, 0), (.goto 9, 24, 0)]
def oX10_ways_18 : List xO := [(.aload_n 0, 0, 0), (.getfield 41, 10, 13), (.iload_n 1, 0, 0), (.iaload, 0, 0)]
def oX10_ways_24 : List xO := [(.ireturn, 0, 0)]
def AX10_ways : List (Nat × List xO) := [(0, oX10_ways_0), (10, oX10_ways_10), (18, oX10_ways_18), (24, oX10_ways_24)]
theorem aX10_ways : xTok tX10_ways AX10_ways = true := by decide +kernel
theorem rX10_ways : tX10_ways.2.2.2.2 = (some .int) := rfl
theorem cX10_ways_7 {l : Launch} {d mc ms : Nat} {Q : xP} {kc ks n : Nat} {L : xL} {rest : List Value} {ws : xW} {v0 : Value} {b : Nat} {vs : List Value} (hw : ws b = some (10, .inr (.inr (.inr vs)))) {dc cc cs : Nat} {Q' : xP} (hd : dc + 1 ≤ d) (hkc : cc ≤ kc) (hks : cs ≤ ks) (hr : (rest.map fun v => v.category).sum ≤ 8) (hM : xM l tX10_noGood dc cc cs [.ref b, v0] n ws Q') (k : ∀ r n' ws', Q' r n' ws' → xX l tX10_ways d mc ms Q (kc - cc) (ks - cs) 10 L (r.toList ++ rest) n' ws') : xX l tX10_ways d mc ms Q kc ks 7 L (v0 :: .ref b :: rest) n ws := xcallV (t := tX10_ways) (As := [v0]) rfl mX10_noGood k10_98 (by decide +kernel) rfl rfl hw (by decide) hr hd hkc hks hM k
def oX10_way_0 : List xO := [(.aload_n 0, 0, 0), (.iconst 0, 0, 0), (.putfield 1, 10, 0), (.aload_n 0, 0, 0), (.iload_n 1, 0, 0)]
def oX10_way_10 : List xO := [(.ifCond .ne 40, 50, 0), (.iload_n 2, 0, 0), (.iconst 0, 0, 0), (.aload_n 0, 0, 0), (.getfield 41, 10, 13), (.iload_n 1, 0, 0), (.iaload, 0, 0), (.iconst 1, 0, 0), (.isub, 0, 0)]
def oX10_way_26 : List xO := [(.ifCond .eq 24, 50, 0), (.iload_n 3, 0, 0), (.bipush (-2), 0, 0), (.aload_n 0, 0, 0), (.getfield 47, 10, 15), (.iconst 5, 0, 0), (.iload_n 1, 0, 0), (.imul, 0, 0), (.iload_n 2, 0, 0), (.iadd, 0, 0), (.iaload, 0, 0), (.iconst 1, 0, 0), (.isub, 0, 0)]
def oX10_way_47 : List xO := [(.ifCond .ne 6, 53, 0)]
def oX10_way_50 : List xO := [(.bipush (-2), 0, 0), (.ireturn, 0, 0)]
def oX10_way_53 : List xO := [(.iconst 5, 0, 0), (.iload_n 1, 0, 0), (.imul, 0, 0), (.iload_n 2, 0, 0), (.iadd, 0, 0), (.istore 4, 0, 0), (.iload_n 3, 0, 0), (.bipush (-2), 0, 0), (.if_icmp .ne 13, 76, 0), (.aload_n 0, 0, 0), (.getfield 50, 10, 16), (.iload 4, 0, 0), (.iaload, 0, 0), (.goto 30, 103, 0)]
def oX10_way_76 : List xO := [(.iload_n 3, 0, 0), (.iconst (-1), 0, 0), (.if_icmp .ne 13, 91, 0), (.aload_n 0, 0, 0), (.getfield 47, 10, 15), (.iload 4, 0, 0), (.iaload, 0, 0), (.goto 15, 103, 0)]
def oX10_way_91 : List xO := [(.aload_n 0, 0, 0), (.getfield 44, 10, 14), (.bipush 10, 0, 0), (.iload 4, 0, 0), (.imul, 0, 0), (.iload_n 3, 0, 0), (.iadd, 0, 0), (.iaload, 0, 0)]
def oX10_way_103 : List xO := [(.ireturn, 0, 0)]
def AX10_way : List (Nat × List xO) := [(0, oX10_way_0), (10, oX10_way_10), (26, oX10_way_26), (47, oX10_way_47), (50, oX10_way_50), (53, oX10_way_53), (76, oX10_way_76), (91, oX10_way_91), (103, oX10_way_103)]
theorem aX10_way : xTok tX10_way AX10_way = true := by decide +kernel
theorem rX10_way : tX10_way.2.2.2.2 = (some .int) := rfl
theorem cX10_way_7 {l : Launch} {d mc ms : Nat} {Q : xP} {kc ks n : Nat} {L : xL} {rest : List Value} {ws : xW} {v0 : Value} {b : Nat} {vs : List Value} (hw : ws b = some (10, .inr (.inr (.inr vs)))) {dc cc cs : Nat} {Q' : xP} (hd : dc + 1 ≤ d) (hkc : cc ≤ kc) (hks : cs ≤ ks) (hr : (rest.map fun v => v.category).sum ≤ 8) (hM : xM l tX10_noGood dc cc cs [.ref b, v0] n ws Q') (k : ∀ r n' ws', Q' r n' ws' → xX l tX10_way d mc ms Q (kc - cc) (ks - cs) 10 L (r.toList ++ rest) n' ws') : xX l tX10_way d mc ms Q kc ks 7 L (v0 :: .ref b :: rest) n ws := xcallV (t := tX10_way) (As := [v0]) rfl mX10_noGood k10_98 (by decide +kernel) rfl rfl hw (by decide) hr hd hkc hks hM k
theorem cX10_way_23 {l : Launch} {d mc ms : Nat} {Q : xP} {kc ks n : Nat} {L : xL} {rest : List Value} {ws : xW} {v0 v1 v2 : Value} {dc cc cs : Nat} {Q' : xP} (hd : dc + 1 ≤ d) (hkc : cc ≤ kc) (hks : cs ≤ ks) (hr : (rest.map fun v => v.category).sum ≤ 8) (hM : xM l tX10_in dc cc cs [v0, v1, v2] n ws Q') (k : ∀ r n' ws', Q' r n' ws' → xX l tX10_way d mc ms Q (kc - cc) (ks - cs) 26 L (r.toList ++ rest) n' ws') : xX l tX10_way d mc ms Q kc ks 23 L (v2 :: v1 :: v0 :: rest) n ws := xcallS (t := tX10_way) (As := [v0, v1, v2]) rfl mX10_in k10_78 (by decide +kernel) rfl rfl hr hd hkc hks hM k
theorem cX10_way_44 {l : Launch} {d mc ms : Nat} {Q : xP} {kc ks n : Nat} {L : xL} {rest : List Value} {ws : xW} {v0 v1 v2 : Value} {dc cc cs : Nat} {Q' : xP} (hd : dc + 1 ≤ d) (hkc : cc ≤ kc) (hks : cs ≤ ks) (hr : (rest.map fun v => v.category).sum ≤ 8) (hM : xM l tX10_in dc cc cs [v0, v1, v2] n ws Q') (k : ∀ r n' ws', Q' r n' ws' → xX l tX10_way d mc ms Q (kc - cc) (ks - cs) 47 L (r.toList ++ rest) n' ws') : xX l tX10_way d mc ms Q kc ks 44 L (v2 :: v1 :: v0 :: rest) n ws := xcallS (t := tX10_way) (As := [v0, v1, v2]) rfl mX10_in k10_78 (by decide +kernel) rfl rfl hr hd hkc hks hM k
def oX10_hasArc_0 : List xO := [(.iconst 5, 0, 0), (.iload_n 1, 0, 0), (.imul, 0, 0), (.iload_n 2, 0, 0), (.iadd, 0, 0), (.istore 4, 0, 0), (.iconst 0, 0, 0), (.istore 5, 0, 0)]
def oX10_hasArc_10 : List xO := [(.iload 5, 0, 0), (.aload_n 0, 0, 0), (.getfield 47, 10, 15), (.iload 4, 0, 0), (.iaload, 0, 0), (.if_icmp .ge 28, 47, 0), (.aload_n 0, 0, 0), (.getfield 44, 10, 14), (.bipush 10, 0, 0), (.iload 4, 0, 0), (.imul, 0, 0), (.iload 5, 0, 0), (.iadd, 0, 0), (.iaload, 0, 0), (.iload_n 3, 0, 0), (.if_icmp .ne 5, 41, 0), (.iconst 1, 0, 0), (.ireturn, 0, 0)]
def oX10_hasArc_41 : List xO := [(.iinc 5 1, 0, 0), (.goto (-34), 10, 0)]
def oX10_hasArc_47 : List xO := [(.iconst 0, 0, 0), (.ireturn, 0, 0)]
def AX10_hasArc : List (Nat × List xO) := [(0, oX10_hasArc_0), (10, oX10_hasArc_10), (41, oX10_hasArc_41), (47, oX10_hasArc_47)]
theorem aX10_hasArc : xTok tX10_hasArc AX10_hasArc = true := by decide +kernel
theorem rX10_hasArc : tX10_hasArc.2.2.2.2 = (some .boolean) := rfl
def oX10_load_0 : List xO := [(.iconst 5, 0, 0), (.iload_n 1, 0, 0), (.imul, 0, 0), (.iload_n 2, 0, 0), (.iadd, 0, 0), (.istore 4, 0, 0), (.iconst 0, 0, 0), (.istore 5, 0, 0)]
def oX10_load_10 : List xO := [(.iload 5, 0, 0), (.aload_n 0, 0, 0), (.getfield 47, 10, 15), (.iload 4, 0, 0), (.iaload, 0, 0), (.if_icmp .ge 47, 66, 0), (.aload_n 0, 0, 0), (.getfield 62, 10, 22), (.aload_n 0, 0, 0), (.getfield 44, 10, 14), (.bipush 10, 0, 0), (.iload 4, 0, 0), (.imul, 0, 0), (.iload 5, 0, 0), (.iadd, 0, 0), (.iaload, 0, 0), (.aload_n 0, 0, 0), (.getfield 62, 10, 22), (.aload_n 0, 0, 0), (.getfield 44, 10, 14), (.bipush 10, 0, 0), (.iload 4, 0, 0), (.imul, 0, 0), (.iload 5, 0, 0), (.iadd, 0, 0), (.iaload, 0, 0), (.iaload, 0, 0), (.iload_n 3, 0, 0), (.isub, 0, 0), (.iastore, 0, 0), (.iinc 5 1, 0, 0), (.goto (-53), 10, 0)]
def oX10_load_66 : List xO := [(.return_, 0, 0)]
def AX10_load : List (Nat × List xO) := [(0, oX10_load_0), (10, oX10_load_10), (66, oX10_load_66)]
theorem aX10_load : xTok tX10_load AX10_load = true := by decide +kernel
theorem rX10_load : tX10_load.2.2.2.2 = none := rfl
def oX10_fits_0 : List xO := [(.iconst 5, 0, 0), (.iload_n 1, 0, 0), (.imul, 0, 0), (.iload_n 2, 0, 0), (.iadd, 0, 0), (.istore_n 3, 0, 0), (.iconst 1, 0, 0), (.istore 4, 0, 0), (.iconst 0, 0, 0), (.istore 5, 0, 0)]
def oX10_fits_12 : List xO := [(.iload 5, 0, 0), (.aload_n 0, 0, 0), (.getfield 47, 10, 15), (.iload_n 3, 0, 0), (.iaload, 0, 0), (.if_icmp .ge 47, 67, 0), (.iload 4, 0, 0), (.ifCond .eq 33, 58, 0), (.aload_n 0, 0, 0), (.getfield 62, 10, 22), (.aload_n 0, 0, 0), (.getfield 44, 10, 14), (.bipush 10, 0, 0), (.iload_n 3, 0, 0), (.imul, 0, 0), (.iload 5, 0, 0), (.iadd, 0, 0), (.iaload, 0, 0), (.iaload, 0, 0), (.aload_n 0, 0, 0), (.getfield 32, 10, 10), (.iload_n 1, 0, 0), (.iaload, 0, 0), (.if_icmp .lt 7, 58, 0), (.iconst 1, 0, 0), (.goto 4, 59, 0)]
def oX10_fits_58 : List xO := [(.iconst 0, 0, 0)]
def oX10_fits_59 : List xO := [(.istore 4, 0, 0), (.iinc 5 1, 0, 0), (.goto (-52), 12, 0)]
def oX10_fits_67 : List xO := [(.iload 4, 0, 0), (.ireturn, 0, 0)]
def AX10_fits : List (Nat × List xO) := [(0, oX10_fits_0), (12, oX10_fits_12), (58, oX10_fits_58), (59, oX10_fits_59), (67, oX10_fits_67)]
theorem aX10_fits : xTok tX10_fits AX10_fits = true := by decide +kernel
theorem rX10_fits : tX10_fits.2.2.2.2 = (some .boolean) := rfl
def oX10_plans_0 : List xO := [(.iload_n 1, 0, 0), (.aload_n 0, 0, 0), (.getfield 85, 10, 7), (.if_icmp .ne 70, 75, 0), (.iload_n 2, 0, 0), (.aload_n 0, 0, 0), (.getfield 112, 10, 20), (.if_icmp .gt 19, 32, 0), (.iload_n 2, 0, 0), (.aload_n 0, 0, 0), (.getfield 112, 10, 20), (.if_icmp .ne 53, 74, 0), (.iload_n 3, 0, 0), (.aload_n 0, 0, 0), (.getfield 115, 10, 21), (.if_icmp .ge 45, 74, 0)]
def oX10_plans_32 : List xO := [(.aload_n 0, 0, 0), (.iload_n 2, 0, 0), (.putfield 112, 10, 20), (.aload_n 0, 0, 0), (.iload_n 3, 0, 0), (.putfield 115, 10, 21), (.iconst 0, 0, 0), (.istore 4, 0, 0)]
def oX10_plans_45 : List xO := [(.iload 4, 0, 0), (.aload_n 0, 0, 0), (.getfield 85, 10, 7), (.if_icmp .ge 23, 74, 0), (.aload_n 0, 0, 0), (.getfield 59, 10, 19), (.iload 4, 0, 0), (.aload_n 0, 0, 0), (.getfield 56, 10, 18), (.iload 4, 0, 0), (.iaload, 0, 0), (.iastore, 0, 0), (.iinc 4 1, 0, 0), (.goto (-26), 45, 0)]
def oX10_plans_74 : List xO := [(.return_, 0, 0)]
def oX10_plans_75 : List xO := [(.iconst 0, 0, 0), (.istore 4, 0, 0)]
def oX10_plans_78 : List xO := [(.iload 4, 0, 0), (.aload_n 0, 0, 0), (.getfield 41, 10, 13), (.iload_n 1, 0, 0), (.iaload, 0, 0), (.if_icmp .ge 89, 175, 0), (.aload_n 0, 0, 0), (.iload_n 1, 0, 0), (.iload 4, 0, 0)]
def oX10_plans_96 : List xO := [(.ifCond .eq 73, 169, 0), (.aload_n 0, 0, 0), (.iload_n 1, 0, 0), (.iload 4, 0, 0), (.aload_n 0, 0, 0), (.getfield 32, 10, 10), (.iload_n 1, 0, 0), (.iaload, 0, 0)]
def oX10_plans_112 : List xO := [(.aload_n 0, 0, 0), (.getfield 56, 10, 18), (.iload_n 1, 0, 0), (.iload 4, 0, 0), (.iastore, 0, 0), (.aload_n 0, 0, 0), (.iload_n 1, 0, 0), (.iconst 1, 0, 0), (.iadd, 0, 0), (.iload_n 2, 0, 0), (.aload_n 0, 0, 0), (.getfield 35, 10, 11), (.iload_n 1, 0, 0), (.iaload, 0, 0), (.iadd, 0, 0), (.iload_n 3, 0, 0), (.aload_n 0, 0, 0), (.getfield 32, 10, 10), (.iload_n 1, 0, 0), (.iaload, 0, 0), (.aload_n 0, 0, 0), (.getfield 50, 10, 16), (.iconst 5, 0, 0), (.iload_n 1, 0, 0), (.imul, 0, 0), (.iload 4, 0, 0), (.iadd, 0, 0), (.iaload, 0, 0), (.imul, 0, 0), (.iadd, 0, 0)]
def oX10_plans_155 : List xO := [(.aload_n 0, 0, 0), (.iload_n 1, 0, 0), (.iload 4, 0, 0), (.aload_n 0, 0, 0), (.getfield 32, 10, 10), (.iload_n 1, 0, 0), (.iaload, 0, 0), (.ineg, 0, 0)]
def oX10_plans_169 : List xO := [(.iinc 4 1, 0, 0), (.goto (-94), 78, 0)]
def oX10_plans_175 : List xO := [(.aload_n 0, 0, 0), (.getfield 56, 10, 18), (.iload_n 1, 0, 0), (.iconst (-1), 0, 0), (.iastore, 0, 0), (.aload_n 0, 0, 0), (.iload_n 1, 0, 0), (.iconst 1, 0, 0), (.iadd, 0, 0), (.iload_n 2, 0, 0), (.iload_n 3, 0, 0)]
def oX10_plans_191 : List xO := [(.return_, 0, 0)]
def AX10_plans : List (Nat × List xO) := [(0, oX10_plans_0), (32, oX10_plans_32), (45, oX10_plans_45), (74, oX10_plans_74), (75, oX10_plans_75), (78, oX10_plans_78), (96, oX10_plans_96), (112, oX10_plans_112), (155, oX10_plans_155), (169, oX10_plans_169), (175, oX10_plans_175), (191, oX10_plans_191)]
theorem aX10_plans : xTok tX10_plans AX10_plans = true := by decide +kernel
theorem rX10_plans : tX10_plans.2.2.2.2 = none := rfl
theorem cX10_plans_93 {l : Launch} {d mc ms : Nat} {Q : xP} {kc ks n : Nat} {L : xL} {rest : List Value} {ws : xW} {v0 v1 : Value} {b : Nat} {vs : List Value} (hw : ws b = some (10, .inr (.inr (.inr vs)))) {dc cc cs : Nat} {Q' : xP} (hd : dc + 1 ≤ d) (hkc : cc ≤ kc) (hks : cs ≤ ks) (hr : (rest.map fun v => v.category).sum ≤ 8) (hM : xM l tX10_fits dc cc cs [.ref b, v0, v1] n ws Q') (k : ∀ r n' ws', Q' r n' ws' → xX l tX10_plans d mc ms Q (kc - cc) (ks - cs) 96 L (r.toList ++ rest) n' ws') : xX l tX10_plans d mc ms Q kc ks 93 L (v1 :: v0 :: .ref b :: rest) n ws := xcallV (t := tX10_plans) (As := [v0, v1]) rfl mX10_fits k10_118 (by decide +kernel) rfl rfl hw (by decide) hr hd hkc hks hM k
theorem cX10_plans_109 {l : Launch} {d mc ms : Nat} {Q : xP} {kc ks n : Nat} {L : xL} {rest : List Value} {ws : xW} {v0 v1 v2 : Value} {b : Nat} {vs : List Value} (hw : ws b = some (10, .inr (.inr (.inr vs)))) {dc cc cs : Nat} {Q' : xP} (hd : dc + 1 ≤ d) (hkc : cc ≤ kc) (hks : cs ≤ ks) (hr : (rest.map fun v => v.category).sum ≤ 8) (hM : xM l tX10_load dc cc cs [.ref b, v0, v1, v2] n ws Q') (k : ∀ r n' ws', Q' r n' ws' → xX l tX10_plans d mc ms Q (kc - cc) (ks - cs) 112 L (r.toList ++ rest) n' ws') : xX l tX10_plans d mc ms Q kc ks 109 L (v2 :: v1 :: v0 :: .ref b :: rest) n ws := xcallV (t := tX10_plans) (As := [v0, v1, v2]) rfl mX10_load k10_122 (by decide +kernel) rfl rfl hw (by decide) hr hd hkc hks hM k
theorem cX10_plans_152 {l : Launch} {d mc ms : Nat} {Q : xP} {kc ks n : Nat} {L : xL} {rest : List Value} {ws : xW} {v0 v1 v2 v3 : Value} {dc cc cs : Nat} {Q' : xP} (hd : dc + 1 ≤ d) (hkc : cc ≤ kc) (hks : cs ≤ ks) (hr : (rest.map fun v => v.category).sum ≤ 8) (hM : xM l tX10_plans dc cc cs [v0, v1, v2, v3] n ws Q') (k : ∀ r n' ws', Q' r n' ws' → xX l tX10_plans d mc ms Q (kc - cc) (ks - cs) 155 L (r.toList ++ rest) n' ws') : xX l tX10_plans d mc ms Q kc ks 152 L (v3 :: v2 :: v1 :: v0 :: rest) n ws := xcallS (t := tX10_plans) (As := [v0, v1, v2, v3]) rfl mX10_plans k10_125 (by decide +kernel) rfl rfl hr hd hkc hks hM k
theorem cX10_plans_166 {l : Launch} {d mc ms : Nat} {Q : xP} {kc ks n : Nat} {L : xL} {rest : List Value} {ws : xW} {v0 v1 v2 : Value} {b : Nat} {vs : List Value} (hw : ws b = some (10, .inr (.inr (.inr vs)))) {dc cc cs : Nat} {Q' : xP} (hd : dc + 1 ≤ d) (hkc : cc ≤ kc) (hks : cs ≤ ks) (hr : (rest.map fun v => v.category).sum ≤ 8) (hM : xM l tX10_load dc cc cs [.ref b, v0, v1, v2] n ws Q') (k : ∀ r n' ws', Q' r n' ws' → xX l tX10_plans d mc ms Q (kc - cc) (ks - cs) 169 L (r.toList ++ rest) n' ws') : xX l tX10_plans d mc ms Q kc ks 166 L (v2 :: v1 :: v0 :: .ref b :: rest) n ws := xcallV (t := tX10_plans) (As := [v0, v1, v2]) rfl mX10_load k10_122 (by decide +kernel) rfl rfl hw (by decide) hr hd hkc hks hM k
theorem cX10_plans_188 {l : Launch} {d mc ms : Nat} {Q : xP} {kc ks n : Nat} {L : xL} {rest : List Value} {ws : xW} {v0 v1 v2 v3 : Value} {dc cc cs : Nat} {Q' : xP} (hd : dc + 1 ≤ d) (hkc : cc ≤ kc) (hks : cs ≤ ks) (hr : (rest.map fun v => v.category).sum ≤ 8) (hM : xM l tX10_plans dc cc cs [v0, v1, v2, v3] n ws Q') (k : ∀ r n' ws', Q' r n' ws' → xX l tX10_plans d mc ms Q (kc - cc) (ks - cs) 191 L (r.toList ++ rest) n' ws') : xX l tX10_plans d mc ms Q kc ks 188 L (v3 :: v2 :: v1 :: v0 :: rest) n ws := xcallS (t := tX10_plans) (As := [v0, v1, v2, v3]) rfl mX10_plans k10_125 (by decide +kernel) rfl rfl hr hd hkc hks hM k
def oX10_findBest_0 : List xO := [(.aload_n 0, 0, 0), (.iconst (-1), 0, 0), (.putfield 112, 10, 20), (.aload_n 0, 0, 0), (.iconst 0, 0, 0), (.putfield 115, 10, 21), (.iconst 0, 0, 0), (.istore_n 1, 0, 0)]
def oX10_findBest_12 : List xO := [(.iload_n 1, 0, 0), (.aload_n 0, 0, 0), (.getfield 82, 10, 2), (.if_icmp .ge 21, 38, 0), (.aload_n 0, 0, 0), (.getfield 62, 10, 22), (.iload_n 1, 0, 0), (.aload_n 0, 0, 0), (.getfield 20, 10, 5), (.iload_n 1, 0, 0), (.iaload, 0, 0), (.iastore, 0, 0), (.iinc 1 1, 0, 0), (.goto (-23), 12, 0)]
def oX10_findBest_38 : List xO := [(.aload_n 0, 0, 0), (.iconst 0, 0, 0), (.iconst 0, 0, 0), (.iconst 0, 0, 0)]
def oX10_findBest_45 : List xO := [(.return_, 0, 0)]
def AX10_findBest : List (Nat × List xO) := [(0, oX10_findBest_0), (12, oX10_findBest_12), (38, oX10_findBest_38), (45, oX10_findBest_45)]
theorem aX10_findBest : xTok tX10_findBest AX10_findBest = true := by decide +kernel
theorem rX10_findBest : tX10_findBest.2.2.2.2 = none := rfl
theorem cX10_findBest_42 {l : Launch} {d mc ms : Nat} {Q : xP} {kc ks n : Nat} {L : xL} {rest : List Value} {ws : xW} {v0 v1 v2 v3 : Value} {dc cc cs : Nat} {Q' : xP} (hd : dc + 1 ≤ d) (hkc : cc ≤ kc) (hks : cs ≤ ks) (hr : (rest.map fun v => v.category).sum ≤ 8) (hM : xM l tX10_plans dc cc cs [v0, v1, v2, v3] n ws Q') (k : ∀ r n' ws', Q' r n' ws' → xX l tX10_findBest d mc ms Q (kc - cc) (ks - cs) 45 L (r.toList ++ rest) n' ws') : xX l tX10_findBest d mc ms Q kc ks 42 L (v3 :: v2 :: v1 :: v0 :: rest) n ws := xcallS (t := tX10_findBest) (As := [v0, v1, v2, v3]) rfl mX10_plans k10_125 (by decide +kernel) rfl rfl hr hd hkc hks hM k
def oX10_best_0 : List xO := [(.aload_n 0, 0, 0), (.iconst 0, 0, 0), (.putfield 1, 10, 0), (.aload_n 0, 0, 0)]
def oX10_best_9 : List xO := [(.aload_n 0, 0, 0), (.getfield 112, 10, 20), (.ireturn, 0, 0)]
def AX10_best : List (Nat × List xO) := [(0, oX10_best_0), (9, oX10_best_9)]
theorem aX10_best : xTok tX10_best AX10_best = true := by decide +kernel
theorem rX10_best : tX10_best.2.2.2.2 = (some .int) := rfl
theorem cX10_best_6 {l : Launch} {d mc ms : Nat} {Q : xP} {kc ks n : Nat} {L : xL} {rest : List Value} {ws : xW} {b : Nat} {vs : List Value} (hw : ws b = some (10, .inr (.inr (.inr vs)))) {dc cc cs : Nat} {Q' : xP} (hd : dc + 1 ≤ d) (hkc : cc ≤ kc) (hks : cs ≤ ks) (hr : (rest.map fun v => v.category).sum ≤ 8) (hM : xM l tX10_findBest dc cc cs [.ref b] n ws Q') (k : ∀ r n' ws', Q' r n' ws' → xX l tX10_best d mc ms Q (kc - cc) (ks - cs) 9 L (r.toList ++ rest) n' ws') : xX l tX10_best d mc ms Q kc ks 6 L (.ref b :: rest) n ws := xcallV (t := tX10_best) (As := []) rfl mX10_findBest k10_129 (by decide +kernel) rfl rfl hw (by decide) hr hd hkc hks hM k
def oX10_spent_0 : List xO := [(.aload_n 0, 0, 0), (.iconst 0, 0, 0), (.putfield 1, 10, 0), (.aload_n 0, 0, 0)]
def oX10_spent_9 : List xO := [(.aload_n 0, 0, 0), (.getfield 115, 10, 21), (.ireturn, 0, 0)]
def AX10_spent : List (Nat × List xO) := [(0, oX10_spent_0), (9, oX10_spent_9)]
theorem aX10_spent : xTok tX10_spent AX10_spent = true := by decide +kernel
theorem rX10_spent : tX10_spent.2.2.2.2 = (some .int) := rfl
theorem cX10_spent_6 {l : Launch} {d mc ms : Nat} {Q : xP} {kc ks n : Nat} {L : xL} {rest : List Value} {ws : xW} {b : Nat} {vs : List Value} (hw : ws b = some (10, .inr (.inr (.inr vs)))) {dc cc cs : Nat} {Q' : xP} (hd : dc + 1 ≤ d) (hkc : cc ≤ kc) (hks : cs ≤ ks) (hr : (rest.map fun v => v.category).sum ≤ 8) (hM : xM l tX10_findBest dc cc cs [.ref b] n ws Q') (k : ∀ r n' ws', Q' r n' ws' → xX l tX10_spent d mc ms Q (kc - cc) (ks - cs) 9 L (r.toList ++ rest) n' ws') : xX l tX10_spent d mc ms Q kc ks 6 L (.ref b :: rest) n ws := xcallV (t := tX10_spent) (As := []) rfl mX10_findBest k10_129 (by decide +kernel) rfl rfl hw (by decide) hr hd hkc hks hM k
def oX10_plan_0 : List xO := [(.aload_n 0, 0, 0), (.iconst 0, 0, 0), (.putfield 1, 10, 0), (.aload_n 0, 0, 0), (.iload_n 1, 0, 0)]
def oX10_plan_10 : List xO := [(.ifCond .eq 6, 16, 0), (.bipush (-2), 0, 0), (.ireturn, 0, 0)]
def oX10_plan_16 : List xO := [(.aload_n 0, 0, 0)]
def oX10_plan_20 : List xO := [(.aload_n 0, 0, 0), (.getfield 59, 10, 19), (.iload_n 1, 0, 0), (.iaload, 0, 0), (.ireturn, 0, 0)]
def AX10_plan : List (Nat × List xO) := [(0, oX10_plan_0), (10, oX10_plan_10), (16, oX10_plan_16), (20, oX10_plan_20)]
theorem aX10_plan : xTok tX10_plan AX10_plan = true := by decide +kernel
theorem rX10_plan : tX10_plan.2.2.2.2 = (some .int) := rfl
theorem cX10_plan_7 {l : Launch} {d mc ms : Nat} {Q : xP} {kc ks n : Nat} {L : xL} {rest : List Value} {ws : xW} {v0 : Value} {b : Nat} {vs : List Value} (hw : ws b = some (10, .inr (.inr (.inr vs)))) {dc cc cs : Nat} {Q' : xP} (hd : dc + 1 ≤ d) (hkc : cc ≤ kc) (hks : cs ≤ ks) (hr : (rest.map fun v => v.category).sum ≤ 8) (hM : xM l tX10_noGood dc cc cs [.ref b, v0] n ws Q') (k : ∀ r n' ws', Q' r n' ws' → xX l tX10_plan d mc ms Q (kc - cc) (ks - cs) 10 L (r.toList ++ rest) n' ws') : xX l tX10_plan d mc ms Q kc ks 7 L (v0 :: .ref b :: rest) n ws := xcallV (t := tX10_plan) (As := [v0]) rfl mX10_noGood k10_98 (by decide +kernel) rfl rfl hw (by decide) hr hd hkc hks hM k
theorem cX10_plan_17 {l : Launch} {d mc ms : Nat} {Q : xP} {kc ks n : Nat} {L : xL} {rest : List Value} {ws : xW} {b : Nat} {vs : List Value} (hw : ws b = some (10, .inr (.inr (.inr vs)))) {dc cc cs : Nat} {Q' : xP} (hd : dc + 1 ≤ d) (hkc : cc ≤ kc) (hks : cs ≤ ks) (hr : (rest.map fun v => v.category).sum ≤ 8) (hM : xM l tX10_findBest dc cc cs [.ref b] n ws Q') (k : ∀ r n' ws', Q' r n' ws' → xX l tX10_plan d mc ms Q (kc - cc) (ks - cs) 20 L (r.toList ++ rest) n' ws') : xX l tX10_plan d mc ms Q kc ks 17 L (.ref b :: rest) n ws := xcallV (t := tX10_plan) (As := []) rfl mX10_findBest k10_129 (by decide +kernel) rfl rfl hw (by decide) hr hd hkc hks hM k
def oX10_loadOf_0 : List xO := [(.iconst 0, 0, 0), (.istore_n 3, 0, 0), (.iconst 0, 0, 0), (.istore 4, 0, 0)]
def oX10_loadOf_5 : List xO := [(.iload 4, 0, 0), (.aload_n 0, 0, 0), (.getfield 85, 10, 7), (.if_icmp .ge 44, 55, 0), (.aload_n 1, 0, 0), (.iload 4, 0, 0), (.iaload, 0, 0), (.ifCond .lt 29, 47, 0), (.aload_n 0, 0, 0), (.iload 4, 0, 0), (.aload_n 1, 0, 0), (.iload 4, 0, 0), (.iaload, 0, 0), (.iload_n 2, 0, 0)]
def oX10_loadOf_32 : List xO := [(.ifCond .eq 15, 47, 0), (.iload_n 3, 0, 0), (.aload_n 0, 0, 0), (.getfield 32, 10, 10), (.iload 4, 0, 0), (.iaload, 0, 0), (.iadd, 0, 0), (.goto 4, 48, 0)]
def oX10_loadOf_47 : List xO := [(.iload_n 3, 0, 0)]
def oX10_loadOf_48 : List xO := [(.istore_n 3, 0, 0), (.iinc 4 1, 0, 0), (.goto (-47), 5, 0)]
def oX10_loadOf_55 : List xO := [(.iload_n 3, 0, 0), (.ireturn, 0, 0)]
def AX10_loadOf : List (Nat × List xO) := [(0, oX10_loadOf_0), (5, oX10_loadOf_5), (32, oX10_loadOf_32), (47, oX10_loadOf_47), (48, oX10_loadOf_48), (55, oX10_loadOf_55)]
theorem aX10_loadOf : xTok tX10_loadOf AX10_loadOf = true := by decide +kernel
theorem rX10_loadOf : tX10_loadOf.2.2.2.2 = (some .int) := rfl
theorem cX10_loadOf_29 {l : Launch} {d mc ms : Nat} {Q : xP} {kc ks n : Nat} {L : xL} {rest : List Value} {ws : xW} {v0 v1 v2 : Value} {b : Nat} {vs : List Value} (hw : ws b = some (10, .inr (.inr (.inr vs)))) {dc cc cs : Nat} {Q' : xP} (hd : dc + 1 ≤ d) (hkc : cc ≤ kc) (hks : cs ≤ ks) (hr : (rest.map fun v => v.category).sum ≤ 8) (hM : xM l tX10_hasArc dc cc cs [.ref b, v0, v1, v2] n ws Q') (k : ∀ r n' ws', Q' r n' ws' → xX l tX10_loadOf d mc ms Q (kc - cc) (ks - cs) 32 L (r.toList ++ rest) n' ws') : xX l tX10_loadOf d mc ms Q kc ks 29 L (v2 :: v1 :: v0 :: .ref b :: rest) n ws := xcallV (t := tX10_loadOf) (As := [v0, v1, v2]) rfl mX10_hasArc k10_132 (by decide +kernel) rfl rfl hw (by decide) hr hd hkc hks hM k
def oX10_load__0 : List xO := [(.aload_n 0, 0, 0), (.iconst 0, 0, 0), (.putfield 1, 10, 0), (.aload_n 0, 0, 0), (.iload_n 1, 0, 0)]
def oX10_load__10 : List xO := [(.ifCond .eq 6, 16, 0), (.bipush (-2), 0, 0), (.ireturn, 0, 0)]
def oX10_load__16 : List xO := [(.aload_n 0, 0, 0)]
def oX10_load__20 : List xO := [(.aload_n 0, 0, 0), (.aload_n 0, 0, 0), (.getfield 59, 10, 19), (.iload_n 1, 0, 0)]
def oX10_load__29 : List xO := [(.ireturn, 0, 0)]
def AX10_load_ : List (Nat × List xO) := [(0, oX10_load__0), (10, oX10_load__10), (16, oX10_load__16), (20, oX10_load__20), (29, oX10_load__29)]
theorem aX10_load_ : xTok tX10_load_ AX10_load_ = true := by decide +kernel
theorem rX10_load_ : tX10_load_.2.2.2.2 = (some .int) := rfl
theorem cX10_load__7 {l : Launch} {d mc ms : Nat} {Q : xP} {kc ks n : Nat} {L : xL} {rest : List Value} {ws : xW} {v0 : Value} {b : Nat} {vs : List Value} (hw : ws b = some (10, .inr (.inr (.inr vs)))) {dc cc cs : Nat} {Q' : xP} (hd : dc + 1 ≤ d) (hkc : cc ≤ kc) (hks : cs ≤ ks) (hr : (rest.map fun v => v.category).sum ≤ 8) (hM : xM l tX10_noArc dc cc cs [.ref b, v0] n ws Q') (k : ∀ r n' ws', Q' r n' ws' → xX l tX10_load_ d mc ms Q (kc - cc) (ks - cs) 10 L (r.toList ++ rest) n' ws') : xX l tX10_load_ d mc ms Q kc ks 7 L (v0 :: .ref b :: rest) n ws := xcallV (t := tX10_load_) (As := [v0]) rfl mX10_noArc k10_95 (by decide +kernel) rfl rfl hw (by decide) hr hd hkc hks hM k
theorem cX10_load__17 {l : Launch} {d mc ms : Nat} {Q : xP} {kc ks n : Nat} {L : xL} {rest : List Value} {ws : xW} {b : Nat} {vs : List Value} (hw : ws b = some (10, .inr (.inr (.inr vs)))) {dc cc cs : Nat} {Q' : xP} (hd : dc + 1 ≤ d) (hkc : cc ≤ kc) (hks : cs ≤ ks) (hr : (rest.map fun v => v.category).sum ≤ 8) (hM : xM l tX10_findBest dc cc cs [.ref b] n ws Q') (k : ∀ r n' ws', Q' r n' ws' → xX l tX10_load_ d mc ms Q (kc - cc) (ks - cs) 20 L (r.toList ++ rest) n' ws') : xX l tX10_load_ d mc ms Q kc ks 17 L (.ref b :: rest) n ws := xcallV (t := tX10_load_) (As := []) rfl mX10_findBest k10_129 (by decide +kernel) rfl rfl hw (by decide) hr hd hkc hks hM k
theorem cX10_load__26 {l : Launch} {d mc ms : Nat} {Q : xP} {kc ks n : Nat} {L : xL} {rest : List Value} {ws : xW} {v0 v1 : Value} {b : Nat} {vs : List Value} (hw : ws b = some (10, .inr (.inr (.inr vs)))) {dc cc cs : Nat} {Q' : xP} (hd : dc + 1 ≤ d) (hkc : cc ≤ kc) (hks : cs ≤ ks) (hr : (rest.map fun v => v.category).sum ≤ 8) (hM : xM l tX10_loadOf dc cc cs [.ref b, v0, v1] n ws Q') (k : ∀ r n' ws', Q' r n' ws' → xX l tX10_load_ d mc ms Q (kc - cc) (ks - cs) 29 L (r.toList ++ rest) n' ws') : xX l tX10_load_ d mc ms Q kc ks 26 L (v1 :: v0 :: .ref b :: rest) n ws := xcallV (t := tX10_load_) (As := [v0, v1]) rfl mX10_loadOf k10_135 (by decide +kernel) rfl rfl hw (by decide) hr hd hkc hks hM k
def oX10_price_0 : List xO := [(.aload_n 0, 0, 0), (.iconst 0, 0, 0), (.putfield 1, 10, 0), (.aload_n 0, 0, 0), (.iload_n 1, 0, 0)]
def oX10_price_10 : List xO := [(.ifCond .ne 14, 24, 0), (.iload_n 2, 0, 0), (.iconst 1, 0, 0), (.sipush 1000, 0, 0)]
def oX10_price_21 : List xO := [(.ifCond .ne 6, 27, 0)]
def oX10_price_24 : List xO := [(.bipush (-2), 0, 0), (.ireturn, 0, 0)]
def oX10_price_27 : List xO := [(.aload_n 0, 0, 0)]
def oX10_price_31 : List xO := [(.aload_n 0, 0, 0), (.getfield 112, 10, 20), (.istore_n 3, 0, 0), (.aload_n 0, 0, 0), (.getfield 20, 10, 5), (.iload_n 1, 0, 0), (.aload_n 0, 0, 0), (.getfield 20, 10, 5), (.iload_n 1, 0, 0), (.iaload, 0, 0), (.iload_n 2, 0, 0), (.iadd, 0, 0), (.iastore, 0, 0), (.aload_n 0, 0, 0)]
def oX10_price_54 : List xO := [(.aload_n 0, 0, 0), (.getfield 20, 10, 5), (.iload_n 1, 0, 0), (.aload_n 0, 0, 0), (.getfield 20, 10, 5), (.iload_n 1, 0, 0), (.iaload, 0, 0), (.iload_n 2, 0, 0), (.isub, 0, 0), (.iastore, 0, 0), (.aload_n 0, 0, 0), (.getfield 112, 10, 20), (.iload_n 3, 0, 0), (.isub, 0, 0), (.ireturn, 0, 0)]
def AX10_price : List (Nat × List xO) := [(0, oX10_price_0), (10, oX10_price_10), (21, oX10_price_21), (24, oX10_price_24), (27, oX10_price_27), (31, oX10_price_31), (54, oX10_price_54)]
theorem aX10_price : xTok tX10_price AX10_price = true := by decide +kernel
theorem rX10_price : tX10_price.2.2.2.2 = (some .int) := rfl
theorem cX10_price_7 {l : Launch} {d mc ms : Nat} {Q : xP} {kc ks n : Nat} {L : xL} {rest : List Value} {ws : xW} {v0 : Value} {b : Nat} {vs : List Value} (hw : ws b = some (10, .inr (.inr (.inr vs)))) {dc cc cs : Nat} {Q' : xP} (hd : dc + 1 ≤ d) (hkc : cc ≤ kc) (hks : cs ≤ ks) (hr : (rest.map fun v => v.category).sum ≤ 8) (hM : xM l tX10_noArc dc cc cs [.ref b, v0] n ws Q') (k : ∀ r n' ws', Q' r n' ws' → xX l tX10_price d mc ms Q (kc - cc) (ks - cs) 10 L (r.toList ++ rest) n' ws') : xX l tX10_price d mc ms Q kc ks 7 L (v0 :: .ref b :: rest) n ws := xcallV (t := tX10_price) (As := [v0]) rfl mX10_noArc k10_95 (by decide +kernel) rfl rfl hw (by decide) hr hd hkc hks hM k
theorem cX10_price_18 {l : Launch} {d mc ms : Nat} {Q : xP} {kc ks n : Nat} {L : xL} {rest : List Value} {ws : xW} {v0 v1 v2 : Value} {dc cc cs : Nat} {Q' : xP} (hd : dc + 1 ≤ d) (hkc : cc ≤ kc) (hks : cs ≤ ks) (hr : (rest.map fun v => v.category).sum ≤ 8) (hM : xM l tX10_in dc cc cs [v0, v1, v2] n ws Q') (k : ∀ r n' ws', Q' r n' ws' → xX l tX10_price d mc ms Q (kc - cc) (ks - cs) 21 L (r.toList ++ rest) n' ws') : xX l tX10_price d mc ms Q kc ks 18 L (v2 :: v1 :: v0 :: rest) n ws := xcallS (t := tX10_price) (As := [v0, v1, v2]) rfl mX10_in k10_78 (by decide +kernel) rfl rfl hr hd hkc hks hM k
theorem cX10_price_28 {l : Launch} {d mc ms : Nat} {Q : xP} {kc ks n : Nat} {L : xL} {rest : List Value} {ws : xW} {b : Nat} {vs : List Value} (hw : ws b = some (10, .inr (.inr (.inr vs)))) {dc cc cs : Nat} {Q' : xP} (hd : dc + 1 ≤ d) (hkc : cc ≤ kc) (hks : cs ≤ ks) (hr : (rest.map fun v => v.category).sum ≤ 8) (hM : xM l tX10_findBest dc cc cs [.ref b] n ws Q') (k : ∀ r n' ws', Q' r n' ws' → xX l tX10_price d mc ms Q (kc - cc) (ks - cs) 31 L (r.toList ++ rest) n' ws') : xX l tX10_price d mc ms Q kc ks 28 L (.ref b :: rest) n ws := xcallV (t := tX10_price) (As := []) rfl mX10_findBest k10_129 (by decide +kernel) rfl rfl hw (by decide) hr hd hkc hks hM k
theorem cX10_price_51 {l : Launch} {d mc ms : Nat} {Q : xP} {kc ks n : Nat} {L : xL} {rest : List Value} {ws : xW} {b : Nat} {vs : List Value} (hw : ws b = some (10, .inr (.inr (.inr vs)))) {dc cc cs : Nat} {Q' : xP} (hd : dc + 1 ≤ d) (hkc : cc ≤ kc) (hks : cs ≤ ks) (hr : (rest.map fun v => v.category).sum ≤ 8) (hM : xM l tX10_findBest dc cc cs [.ref b] n ws Q') (k : ∀ r n' ws', Q' r n' ws' → xX l tX10_price d mc ms Q (kc - cc) (ks - cs) 54 L (r.toList ++ rest) n' ws') : xX l tX10_price d mc ms Q kc ks 51 L (.ref b :: rest) n ws := xcallV (t := tX10_price) (As := []) rfl mX10_findBest k10_129 (by decide +kernel) rfl rfl hw (by decide) hr hd hkc hks hM k
def oX10_attempt_0 : List xO := [(.aload_n 0, 0, 0), (.iconst 0, 0, 0), (.putfield 1, 10, 0), (.aload_n 0, 0, 0), (.iload_n 1, 0, 0)]
def oX10_attempt_10 : List xO := [(.ifCond .ne 12, 22, 0), (.iload_n 2, 0, 0), (.iconst (-1), 0, 0), (.iconst 4, 0, 0)]
def oX10_attempt_19 : List xO := [(.ifCond .ne 6, 25, 0)]
def oX10_attempt_22 : List xO := [(.bipush (-2), 0, 0), (.ireturn, 0, 0)]
def oX10_attempt_25 : List xO := [(.aload_n 0, 0, 0), (.getfield 38, 10, 12), (.iload_n 1, 0, 0), (.iaload, 0, 0), (.istore_n 3, 0, 0), (.aload_n 0, 0, 0), (.getfield 38, 10, 12), (.iload_n 1, 0, 0), (.iload_n 2, 0, 0), (.iastore, 0, 0), (.iload_n 3, 0, 0), (.ireturn, 0, 0)]
def AX10_attempt : List (Nat × List xO) := [(0, oX10_attempt_0), (10, oX10_attempt_10), (19, oX10_attempt_19), (22, oX10_attempt_22), (25, oX10_attempt_25)]
theorem aX10_attempt : xTok tX10_attempt AX10_attempt = true := by decide +kernel
theorem rX10_attempt : tX10_attempt.2.2.2.2 = (some .int) := rfl
theorem cX10_attempt_7 {l : Launch} {d mc ms : Nat} {Q : xP} {kc ks n : Nat} {L : xL} {rest : List Value} {ws : xW} {v0 : Value} {b : Nat} {vs : List Value} (hw : ws b = some (10, .inr (.inr (.inr vs)))) {dc cc cs : Nat} {Q' : xP} (hd : dc + 1 ≤ d) (hkc : cc ≤ kc) (hks : cs ≤ ks) (hr : (rest.map fun v => v.category).sum ≤ 8) (hM : xM l tX10_noGood dc cc cs [.ref b, v0] n ws Q') (k : ∀ r n' ws', Q' r n' ws' → xX l tX10_attempt d mc ms Q (kc - cc) (ks - cs) 10 L (r.toList ++ rest) n' ws') : xX l tX10_attempt d mc ms Q kc ks 7 L (v0 :: .ref b :: rest) n ws := xcallV (t := tX10_attempt) (As := [v0]) rfl mX10_noGood k10_98 (by decide +kernel) rfl rfl hw (by decide) hr hd hkc hks hM k
theorem cX10_attempt_16 {l : Launch} {d mc ms : Nat} {Q : xP} {kc ks n : Nat} {L : xL} {rest : List Value} {ws : xW} {v0 v1 v2 : Value} {dc cc cs : Nat} {Q' : xP} (hd : dc + 1 ≤ d) (hkc : cc ≤ kc) (hks : cs ≤ ks) (hr : (rest.map fun v => v.category).sum ≤ 8) (hM : xM l tX10_in dc cc cs [v0, v1, v2] n ws Q') (k : ∀ r n' ws', Q' r n' ws' → xX l tX10_attempt d mc ms Q (kc - cc) (ks - cs) 19 L (r.toList ++ rest) n' ws') : xX l tX10_attempt d mc ms Q kc ks 16 L (v2 :: v1 :: v0 :: rest) n ws := xcallS (t := tX10_attempt) (As := [v0, v1, v2]) rfl mX10_in k10_78 (by decide +kernel) rfl rfl hr hd hkc hks hM k
def oX10_attempted_0 : List xO := [(.aload_n 0, 0, 0), (.iconst 0, 0, 0), (.putfield 1, 10, 0), (.iload_n 1, 0, 0), (.iconst 0, 0, 0), (.iconst 2, 0, 0)]
def oX10_attempted_11 : List xO := [(.ifCond .ne 6, 17, 0), (.bipush (-2), 0, 0), (.ireturn, 0, 0)]
def oX10_attempted_17 : List xO := [(.iconst 0, 0, 0), (.istore_n 2, 0, 0), (.iconst 0, 0, 0), (.istore_n 3, 0, 0)]
def oX10_attempted_21 : List xO := [(.iload_n 3, 0, 0), (.aload_n 0, 0, 0), (.getfield 85, 10, 7), (.if_icmp .ge 75, 101, 0), (.aload_n 0, 0, 0), (.getfield 38, 10, 12), (.iload_n 3, 0, 0), (.iaload, 0, 0), (.aload_n 0, 0, 0), (.getfield 41, 10, 13), (.iload_n 3, 0, 0), (.iaload, 0, 0), (.if_icmp .lt 5, 46, 0), (.iconst (-1), 0, 0), (.ireturn, 0, 0)]
def oX10_attempted_46 : List xO := [(.aload_n 0, 0, 0), (.getfield 38, 10, 12), (.iload_n 3, 0, 0), (.iaload, 0, 0), (.ifCond .lt 43, 95, 0), (.iload_n 1, 0, 0), (.ifCond .ne 14, 70, 0), (.iload_n 2, 0, 0), (.aload_n 0, 0, 0), (.getfield 35, 10, 11), (.iload_n 3, 0, 0), (.iaload, 0, 0), (.iadd, 0, 0), (.goto 27, 94, 0)]
def oX10_attempted_70 : List xO := [(.iload_n 2, 0, 0), (.aload_n 0, 0, 0), (.getfield 32, 10, 10), (.iload_n 3, 0, 0), (.iaload, 0, 0), (.aload_n 0, 0, 0), (.getfield 50, 10, 16), (.iconst 5, 0, 0), (.iload_n 3, 0, 0), (.imul, 0, 0), (.aload_n 0, 0, 0), (.getfield 38, 10, 12), (.iload_n 3, 0, 0), (.iaload, 0, 0), (.iadd, 0, 0), (.iaload, 0, 0), (.imul, 0, 0), (.iadd, 0, 0)]
def oX10_attempted_94 : List xO := [(.istore_n 2, 0, 0)]
def oX10_attempted_95 : List xO := [(.iinc 3 1, 0, 0), (.goto (-77), 21, 0)]
def oX10_attempted_101 : List xO := [(.iload_n 1, 0, 0), (.iconst 2, 0, 0), (.if_icmp .ge 5, 108, 0), (.iload_n 2, 0, 0), (.ireturn, 0, 0)]
def oX10_attempted_108 : List xO := [(.iconst 0, 0, 0), (.istore_n 3, 0, 0)]
def oX10_attempted_110 : List xO := [(.iload_n 3, 0, 0), (.aload_n 0, 0, 0), (.getfield 82, 10, 2), (.if_icmp .ge 29, 144, 0), (.aload_n 0, 0, 0), (.aload_n 0, 0, 0), (.getfield 38, 10, 12), (.iload_n 3, 0, 0)]
def oX10_attempted_127 : List xO := [(.aload_n 0, 0, 0), (.getfield 20, 10, 5), (.iload_n 3, 0, 0), (.iaload, 0, 0), (.if_icmp .le 5, 138, 0), (.iload_n 3, 0, 0), (.ireturn, 0, 0)]
def oX10_attempted_138 : List xO := [(.iinc 3 1, 0, 0), (.goto (-31), 110, 0)]
def oX10_attempted_144 : List xO := [(.iconst (-1), 0, 0), (.ireturn, 0, 0)]
def AX10_attempted : List (Nat × List xO) := [(0, oX10_attempted_0), (11, oX10_attempted_11), (17, oX10_attempted_17), (21, oX10_attempted_21), (46, oX10_attempted_46), (70, oX10_attempted_70), (94, oX10_attempted_94), (95, oX10_attempted_95), (101, oX10_attempted_101), (108, oX10_attempted_108), (110, oX10_attempted_110), (127, oX10_attempted_127), (138, oX10_attempted_138), (144, oX10_attempted_144)]
theorem aX10_attempted : xTok tX10_attempted AX10_attempted = true := by decide +kernel
theorem rX10_attempted : tX10_attempted.2.2.2.2 = (some .int) := rfl
theorem cX10_attempted_8 {l : Launch} {d mc ms : Nat} {Q : xP} {kc ks n : Nat} {L : xL} {rest : List Value} {ws : xW} {v0 v1 v2 : Value} {dc cc cs : Nat} {Q' : xP} (hd : dc + 1 ≤ d) (hkc : cc ≤ kc) (hks : cs ≤ ks) (hr : (rest.map fun v => v.category).sum ≤ 8) (hM : xM l tX10_in dc cc cs [v0, v1, v2] n ws Q') (k : ∀ r n' ws', Q' r n' ws' → xX l tX10_attempted d mc ms Q (kc - cc) (ks - cs) 11 L (r.toList ++ rest) n' ws') : xX l tX10_attempted d mc ms Q kc ks 8 L (v2 :: v1 :: v0 :: rest) n ws := xcallS (t := tX10_attempted) (As := [v0, v1, v2]) rfl mX10_in k10_78 (by decide +kernel) rfl rfl hr hd hkc hks hM k
theorem cX10_attempted_124 {l : Launch} {d mc ms : Nat} {Q : xP} {kc ks n : Nat} {L : xL} {rest : List Value} {ws : xW} {v0 v1 : Value} {b : Nat} {vs : List Value} (hw : ws b = some (10, .inr (.inr (.inr vs)))) {dc cc cs : Nat} {Q' : xP} (hd : dc + 1 ≤ d) (hkc : cc ≤ kc) (hks : cs ≤ ks) (hr : (rest.map fun v => v.category).sum ≤ 8) (hM : xM l tX10_loadOf dc cc cs [.ref b, v0, v1] n ws Q') (k : ∀ r n' ws', Q' r n' ws' → xX l tX10_attempted d mc ms Q (kc - cc) (ks - cs) 127 L (r.toList ++ rest) n' ws') : xX l tX10_attempted d mc ms Q kc ks 124 L (v1 :: v0 :: .ref b :: rest) n ws := xcallV (t := tX10_attempted) (As := [v0, v1]) rfl mX10_loadOf k10_135 (by decide +kernel) rfl rfl hw (by decide) hr hd hkc hks hM k
def oX10_common_0 : List xO := [(.lload_n 0, 0, 0), (.lstore 4, 0, 0), (.lload_n 2, 0, 0), (.lstore 6, 0, 0)]
def oX10_common_6 : List xO := [(.lload 6, 0, 0), (.lconst 0, 0, 0), (.lcmp, 0, 0), (.ifCond .eq 21, 31, 0), (.lload 4, 0, 0), (.lload 6, 0, 0), (.lrem, 0, 0), (.lstore 8, 0, 0), (.lload 6, 0, 0), (.lstore 4, 0, 0), (.lload 8, 0, 0), (.lstore 6, 0, 0), (.goto (-22), 6, 0)]
def oX10_common_31 : List xO := [(.lload 4, 0, 0), (.lreturn, 0, 0)]
def AX10_common : List (Nat × List xO) := [(0, oX10_common_0), (6, oX10_common_6), (31, oX10_common_31)]
theorem aX10_common : xTok tX10_common AX10_common = true := by decide +kernel
theorem rX10_common : tX10_common.2.2.2.2 = (some .long) := rfl
def oX10_findRates_0 : List xO := [(.iconst 0, 0, 0), (.istore_n 1, 0, 0), (.iconst 0, 0, 0), (.istore_n 2, 0, 0)]
def oX10_findRates_4 : List xO := [(.iload_n 2, 0, 0), (.aload_n 0, 0, 0), (.getfield 85, 10, 7), (.if_icmp .ge 49, 58, 0), (.aload_n 0, 0, 0), (.getfield 72, 10, 25), (.iload_n 2, 0, 0), (.iconst (-1), 0, 0), (.iastore, 0, 0), (.aload_n 0, 0, 0), (.getfield 65, 10, 23), (.iload_n 2, 0, 0), (.lconst 0, 0, 0), (.lastore, 0, 0), (.aload_n 0, 0, 0), (.getfield 69, 10, 24), (.iload_n 2, 0, 0), (.lconst 1, 0, 0), (.lastore, 0, 0), (.aload_n 0, 0, 0), (.getfield 41, 10, 13), (.iload_n 2, 0, 0), (.iaload, 0, 0), (.ifCond .le 11, 50, 0), (.iload_n 1, 0, 0), (.iconst 1, 0, 0), (.iload_n 2, 0, 0), (.ishl, 0, 0), (.ior, 0, 0), (.goto 4, 51, 0)]
def oX10_findRates_50 : List xO := [(.iload_n 1, 0, 0)]
def oX10_findRates_51 : List xO := [(.istore_n 1, 0, 0), (.iinc 2 1, 0, 0), (.goto (-51), 4, 0)]
def oX10_findRates_58 : List xO := [(.iload_n 1, 0, 0), (.ifCond .eq 328, 387, 0), (.iconst (-1), 0, 0), (.istore_n 2, 0, 0), (.lconst 0, 0, 0), (.lstore_n 3, 0, 0), (.lconst 1, 0, 0), (.lstore 5, 0, 0), (.iconst 0, 0, 0), (.istore 7, 0, 0)]
def oX10_findRates_72 : List xO := [(.iload 7, 0, 0), (.aload_n 0, 0, 0), (.getfield 82, 10, 2), (.if_icmp .ge 219, 297, 0), (.aload_n 0, 0, 0), (.getfield 20, 10, 5), (.iload 7, 0, 0), (.iaload, 0, 0), (.i2l, 0, 0), (.lstore 8, 0, 0), (.lconst 1, 0, 0), (.lstore 10, 0, 0), (.iconst 0, 0, 0), (.istore 12, 0, 0), (.iconst 0, 0, 0), (.istore 13, 0, 0)]
def oX10_findRates_100 : List xO := [(.iload 13, 0, 0), (.aload_n 0, 0, 0), (.getfield 85, 10, 7), (.if_icmp .ge 144, 250, 0), (.aload_n 0, 0, 0), (.getfield 41, 10, 13), (.iload 13, 0, 0), (.iaload, 0, 0), (.ifCond .le 19, 135, 0), (.aload_n 0, 0, 0), (.iload 13, 0, 0), (.iconst 0, 0, 0), (.iload 7, 0, 0)]
def oX10_findRates_128 : List xO := [(.ifCond .eq 7, 135, 0), (.iconst 1, 0, 0), (.goto 4, 136, 0)]
def oX10_findRates_135 : List xO := [(.iconst 0, 0, 0)]
def oX10_findRates_136 : List xO := [(.istore 14, 0, 0), (.iload_n 1, 0, 0), (.iload 13, 0, 0), (.ishr, 0, 0), (.iconst 1, 0, 0), (.iand, 0, 0), (.iconst 1, 0, 0), (.if_icmp .ne 7, 152, 0), (.iconst 1, 0, 0), (.goto 4, 153, 0)]
def oX10_findRates_152 : List xO := [(.iconst 0, 0, 0)]
def oX10_findRates_153 : List xO := [(.istore 15, 0, 0), (.iload 14, 0, 0), (.ifCond .eq 15, 172, 0), (.iload 15, 0, 0), (.ifCond .eq 10, 172, 0), (.iload 12, 0, 0), (.iconst 1, 0, 0), (.iadd, 0, 0), (.goto 5, 174, 0)]
def oX10_findRates_172 : List xO := [(.iload 12, 0, 0)]
def oX10_findRates_174 : List xO := [(.istore 12, 0, 0), (.iload 14, 0, 0), (.ifCond .eq 66, 244, 0), (.iload 15, 0, 0), (.ifCond .ne 61, 244, 0), (.lload 8, 0, 0), (.aload_n 0, 0, 0), (.getfield 69, 10, 24), (.iload 13, 0, 0), (.laload, 0, 0), (.lmul, 0, 0), (.aload_n 0, 0, 0), (.getfield 65, 10, 23), (.iload 13, 0, 0), (.laload, 0, 0), (.lload 10, 0, 0), (.lmul, 0, 0), (.lsub, 0, 0), (.lstore 8, 0, 0), (.lload 10, 0, 0), (.aload_n 0, 0, 0), (.getfield 69, 10, 24), (.iload 13, 0, 0), (.laload, 0, 0), (.lmul, 0, 0), (.lstore 10, 0, 0), (.lload 8, 0, 0), (.lload 10, 0, 0)]
def oX10_findRates_228 : List xO := [(.lstore 16, 0, 0), (.lload 8, 0, 0), (.lload 16, 0, 0), (.ldiv, 0, 0), (.lstore 8, 0, 0), (.lload 10, 0, 0), (.lload 16, 0, 0), (.ldiv, 0, 0), (.lstore 10, 0, 0)]
def oX10_findRates_244 : List xO := [(.iinc 13 1, 0, 0), (.goto (-147), 100, 0)]
def oX10_findRates_250 : List xO := [(.lload 10, 0, 0), (.iload 12, 0, 0), (.i2l, 0, 0), (.lmul, 0, 0), (.lstore 10, 0, 0), (.iload 12, 0, 0), (.ifCond .le 31, 291, 0), (.iload_n 2, 0, 0), (.iconst (-1), 0, 0), (.if_icmp .eq 16, 281, 0), (.lload 8, 0, 0), (.lload 5, 0, 0), (.lmul, 0, 0), (.lload_n 3, 0, 0), (.lload 10, 0, 0), (.lmul, 0, 0), (.lcmp, 0, 0), (.ifCond .ge 13, 291, 0)]
def oX10_findRates_281 : List xO := [(.iload 7, 0, 0), (.istore_n 2, 0, 0), (.lload 8, 0, 0), (.lstore_n 3, 0, 0), (.lload 10, 0, 0), (.lstore 5, 0, 0)]
def oX10_findRates_291 : List xO := [(.iinc 7 1, 0, 0), (.goto (-222), 72, 0)]
def oX10_findRates_297 : List xO := [(.lload_n 3, 0, 0), (.lload 5, 0, 0)]
def oX10_findRates_303 : List xO := [(.lstore 7, 0, 0), (.iconst 0, 0, 0), (.istore 9, 0, 0)]
def oX10_findRates_308 : List xO := [(.iload 9, 0, 0), (.aload_n 0, 0, 0), (.getfield 85, 10, 7), (.if_icmp .ge 70, 384, 0), (.iload_n 1, 0, 0), (.iload 9, 0, 0), (.ishr, 0, 0), (.iconst 1, 0, 0), (.iand, 0, 0), (.iconst 1, 0, 0), (.if_icmp .ne 54, 378, 0), (.aload_n 0, 0, 0), (.iload 9, 0, 0), (.iconst 0, 0, 0), (.iload_n 2, 0, 0)]
def oX10_findRates_335 : List xO := [(.ifCond .eq 43, 378, 0), (.aload_n 0, 0, 0), (.getfield 65, 10, 23), (.iload 9, 0, 0), (.lload_n 3, 0, 0), (.lload 7, 0, 0), (.ldiv, 0, 0), (.lastore, 0, 0), (.aload_n 0, 0, 0), (.getfield 69, 10, 24), (.iload 9, 0, 0), (.lload 5, 0, 0), (.lload 7, 0, 0), (.ldiv, 0, 0), (.lastore, 0, 0), (.aload_n 0, 0, 0), (.getfield 72, 10, 25), (.iload 9, 0, 0), (.iload_n 2, 0, 0), (.iastore, 0, 0), (.iload_n 1, 0, 0), (.iconst 1, 0, 0), (.iload 9, 0, 0), (.ishl, 0, 0), (.iconst (-1), 0, 0), (.ixor, 0, 0), (.iand, 0, 0), (.istore_n 1, 0, 0)]
def oX10_findRates_378 : List xO := [(.iinc 9 1, 0, 0), (.goto (-73), 308, 0)]
def oX10_findRates_384 : List xO := [(.goto (-326), 58, 0)]
def oX10_findRates_387 : List xO := [(.return_, 0, 0)]
def AX10_findRates : List (Nat × List xO) := [(0, oX10_findRates_0), (4, oX10_findRates_4), (50, oX10_findRates_50), (51, oX10_findRates_51), (58, oX10_findRates_58), (72, oX10_findRates_72), (100, oX10_findRates_100), (128, oX10_findRates_128), (135, oX10_findRates_135), (136, oX10_findRates_136), (152, oX10_findRates_152), (153, oX10_findRates_153), (172, oX10_findRates_172), (174, oX10_findRates_174), (228, oX10_findRates_228), (244, oX10_findRates_244), (250, oX10_findRates_250), (281, oX10_findRates_281), (291, oX10_findRates_291), (297, oX10_findRates_297), (303, oX10_findRates_303), (308, oX10_findRates_308), (335, oX10_findRates_335), (378, oX10_findRates_378), (384, oX10_findRates_384), (387, oX10_findRates_387)]
theorem aX10_findRates : xTok tX10_findRates AX10_findRates = true := by decide +kernel
theorem rX10_findRates : tX10_findRates.2.2.2.2 = none := rfl
theorem cX10_findRates_125 {l : Launch} {d mc ms : Nat} {Q : xP} {kc ks n : Nat} {L : xL} {rest : List Value} {ws : xW} {v0 v1 v2 : Value} {b : Nat} {vs : List Value} (hw : ws b = some (10, .inr (.inr (.inr vs)))) {dc cc cs : Nat} {Q' : xP} (hd : dc + 1 ≤ d) (hkc : cc ≤ kc) (hks : cs ≤ ks) (hr : (rest.map fun v => v.category).sum ≤ 8) (hM : xM l tX10_hasArc dc cc cs [.ref b, v0, v1, v2] n ws Q') (k : ∀ r n' ws', Q' r n' ws' → xX l tX10_findRates d mc ms Q (kc - cc) (ks - cs) 128 L (r.toList ++ rest) n' ws') : xX l tX10_findRates d mc ms Q kc ks 125 L (v2 :: v1 :: v0 :: .ref b :: rest) n ws := xcallV (t := tX10_findRates) (As := [v0, v1, v2]) rfl mX10_hasArc k10_132 (by decide +kernel) rfl rfl hw (by decide) hr hd hkc hks hM k
theorem cX10_findRates_225 {l : Launch} {d mc ms : Nat} {Q : xP} {kc ks n : Nat} {L : xL} {rest : List Value} {ws : xW} {v0 v1 : Value} {dc cc cs : Nat} {Q' : xP} (hd : dc + 1 ≤ d) (hkc : cc ≤ kc) (hks : cs ≤ ks) (hr : (rest.map fun v => v.category).sum ≤ 8) (hM : xM l tX10_common dc cc cs [v0, v1] n ws Q') (k : ∀ r n' ws', Q' r n' ws' → xX l tX10_findRates d mc ms Q (kc - cc) (ks - cs) 228 L (r.toList ++ rest) n' ws') : xX l tX10_findRates d mc ms Q kc ks 225 L (v1 :: v0 :: rest) n ws := xcallS (t := tX10_findRates) (As := [v0, v1]) rfl mX10_common k10_139 (by decide +kernel) rfl rfl hr hd hkc hks hM k
theorem cX10_findRates_300 {l : Launch} {d mc ms : Nat} {Q : xP} {kc ks n : Nat} {L : xL} {rest : List Value} {ws : xW} {v0 v1 : Value} {dc cc cs : Nat} {Q' : xP} (hd : dc + 1 ≤ d) (hkc : cc ≤ kc) (hks : cs ≤ ks) (hr : (rest.map fun v => v.category).sum ≤ 8) (hM : xM l tX10_common dc cc cs [v0, v1] n ws Q') (k : ∀ r n' ws', Q' r n' ws' → xX l tX10_findRates d mc ms Q (kc - cc) (ks - cs) 303 L (r.toList ++ rest) n' ws') : xX l tX10_findRates d mc ms Q kc ks 300 L (v1 :: v0 :: rest) n ws := xcallS (t := tX10_findRates) (As := [v0, v1]) rfl mX10_common k10_139 (by decide +kernel) rfl rfl hr hd hkc hks hM k
theorem cX10_findRates_332 {l : Launch} {d mc ms : Nat} {Q : xP} {kc ks n : Nat} {L : xL} {rest : List Value} {ws : xW} {v0 v1 v2 : Value} {b : Nat} {vs : List Value} (hw : ws b = some (10, .inr (.inr (.inr vs)))) {dc cc cs : Nat} {Q' : xP} (hd : dc + 1 ≤ d) (hkc : cc ≤ kc) (hks : cs ≤ ks) (hr : (rest.map fun v => v.category).sum ≤ 8) (hM : xM l tX10_hasArc dc cc cs [.ref b, v0, v1, v2] n ws Q') (k : ∀ r n' ws', Q' r n' ws' → xX l tX10_findRates d mc ms Q (kc - cc) (ks - cs) 335 L (r.toList ++ rest) n' ws') : xX l tX10_findRates d mc ms Q kc ks 332 L (v2 :: v1 :: v0 :: .ref b :: rest) n ws := xcallV (t := tX10_findRates) (As := [v0, v1, v2]) rfl mX10_hasArc k10_132 (by decide +kernel) rfl rfl hw (by decide) hr hd hkc hks hM k
def oX10_rate_0 : List xO := [(.aload_n 0, 0, 0), (.iconst 0, 0, 0), (.putfield 1, 10, 0), (.aload_n 0, 0, 0), (.iload_n 1, 0, 0)]
def oX10_rate_10 : List xO := [(.ifCond .ne 12, 22, 0), (.iload_n 2, 0, 0), (.iconst 0, 0, 0), (.iconst 1, 0, 0)]
def oX10_rate_19 : List xO := [(.ifCond .ne 6, 25, 0)]
def oX10_rate_22 : List xO := [(.bipush (-2), 0, 0), (.ireturn, 0, 0)]
def oX10_rate_25 : List xO := [(.aload_n 0, 0, 0)]
def oX10_rate_29 : List xO := [(.aload_n 0, 0, 0), (.getfield 72, 10, 25), (.iload_n 1, 0, 0), (.iaload, 0, 0), (.iconst (-1), 0, 0), (.if_icmp .ne 7, 43, 0), (.iconst (-1), 0, 0), (.goto 24, 64, 0)]
def oX10_rate_43 : List xO := [(.iload_n 2, 0, 0), (.ifCond .ne 13, 57, 0), (.aload_n 0, 0, 0), (.getfield 65, 10, 23), (.iload_n 1, 0, 0), (.laload, 0, 0), (.l2i, 0, 0), (.goto 10, 64, 0)]
def oX10_rate_57 : List xO := [(.aload_n 0, 0, 0), (.getfield 69, 10, 24), (.iload_n 1, 0, 0), (.laload, 0, 0), (.l2i, 0, 0)]
def oX10_rate_64 : List xO := [(.ireturn, 0, 0)]
def AX10_rate : List (Nat × List xO) := [(0, oX10_rate_0), (10, oX10_rate_10), (19, oX10_rate_19), (22, oX10_rate_22), (25, oX10_rate_25), (29, oX10_rate_29), (43, oX10_rate_43), (57, oX10_rate_57), (64, oX10_rate_64)]
theorem aX10_rate : xTok tX10_rate AX10_rate = true := by decide +kernel
theorem rX10_rate : tX10_rate.2.2.2.2 = (some .int) := rfl
theorem cX10_rate_7 {l : Launch} {d mc ms : Nat} {Q : xP} {kc ks n : Nat} {L : xL} {rest : List Value} {ws : xW} {v0 : Value} {b : Nat} {vs : List Value} (hw : ws b = some (10, .inr (.inr (.inr vs)))) {dc cc cs : Nat} {Q' : xP} (hd : dc + 1 ≤ d) (hkc : cc ≤ kc) (hks : cs ≤ ks) (hr : (rest.map fun v => v.category).sum ≤ 8) (hM : xM l tX10_noGood dc cc cs [.ref b, v0] n ws Q') (k : ∀ r n' ws', Q' r n' ws' → xX l tX10_rate d mc ms Q (kc - cc) (ks - cs) 10 L (r.toList ++ rest) n' ws') : xX l tX10_rate d mc ms Q kc ks 7 L (v0 :: .ref b :: rest) n ws := xcallV (t := tX10_rate) (As := [v0]) rfl mX10_noGood k10_98 (by decide +kernel) rfl rfl hw (by decide) hr hd hkc hks hM k
theorem cX10_rate_16 {l : Launch} {d mc ms : Nat} {Q : xP} {kc ks n : Nat} {L : xL} {rest : List Value} {ws : xW} {v0 v1 v2 : Value} {dc cc cs : Nat} {Q' : xP} (hd : dc + 1 ≤ d) (hkc : cc ≤ kc) (hks : cs ≤ ks) (hr : (rest.map fun v => v.category).sum ≤ 8) (hM : xM l tX10_in dc cc cs [v0, v1, v2] n ws Q') (k : ∀ r n' ws', Q' r n' ws' → xX l tX10_rate d mc ms Q (kc - cc) (ks - cs) 19 L (r.toList ++ rest) n' ws') : xX l tX10_rate d mc ms Q kc ks 16 L (v2 :: v1 :: v0 :: rest) n ws := xcallS (t := tX10_rate) (As := [v0, v1, v2]) rfl mX10_in k10_78 (by decide +kernel) rfl rfl hr hd hkc hks hM k
theorem cX10_rate_26 {l : Launch} {d mc ms : Nat} {Q : xP} {kc ks n : Nat} {L : xL} {rest : List Value} {ws : xW} {b : Nat} {vs : List Value} (hw : ws b = some (10, .inr (.inr (.inr vs)))) {dc cc cs : Nat} {Q' : xP} (hd : dc + 1 ≤ d) (hkc : cc ≤ kc) (hks : cs ≤ ks) (hr : (rest.map fun v => v.category).sum ≤ 8) (hM : xM l tX10_findRates dc cc cs [.ref b] n ws Q') (k : ∀ r n' ws', Q' r n' ws' → xX l tX10_rate d mc ms Q (kc - cc) (ks - cs) 29 L (r.toList ++ rest) n' ws') : xX l tX10_rate d mc ms Q kc ks 26 L (.ref b :: rest) n ws := xcallV (t := tX10_rate) (As := []) rfl mX10_findRates k10_143 (by decide +kernel) rfl rfl hw (by decide) hr hd hkc hks hM k
def oX10_bottleneck_0 : List xO := [(.aload_n 0, 0, 0), (.iconst 0, 0, 0), (.putfield 1, 10, 0), (.aload_n 0, 0, 0), (.iload_n 1, 0, 0)]
def oX10_bottleneck_10 : List xO := [(.ifCond .eq 6, 16, 0), (.bipush (-2), 0, 0), (.ireturn, 0, 0)]
def oX10_bottleneck_16 : List xO := [(.aload_n 0, 0, 0)]
def oX10_bottleneck_20 : List xO := [(.aload_n 0, 0, 0), (.getfield 72, 10, 25), (.iload_n 1, 0, 0), (.iaload, 0, 0), (.ireturn, 0, 0)]
def AX10_bottleneck : List (Nat × List xO) := [(0, oX10_bottleneck_0), (10, oX10_bottleneck_10), (16, oX10_bottleneck_16), (20, oX10_bottleneck_20)]
theorem aX10_bottleneck : xTok tX10_bottleneck AX10_bottleneck = true := by decide +kernel
theorem rX10_bottleneck : tX10_bottleneck.2.2.2.2 = (some .int) := rfl
theorem cX10_bottleneck_7 {l : Launch} {d mc ms : Nat} {Q : xP} {kc ks n : Nat} {L : xL} {rest : List Value} {ws : xW} {v0 : Value} {b : Nat} {vs : List Value} (hw : ws b = some (10, .inr (.inr (.inr vs)))) {dc cc cs : Nat} {Q' : xP} (hd : dc + 1 ≤ d) (hkc : cc ≤ kc) (hks : cs ≤ ks) (hr : (rest.map fun v => v.category).sum ≤ 8) (hM : xM l tX10_noGood dc cc cs [.ref b, v0] n ws Q') (k : ∀ r n' ws', Q' r n' ws' → xX l tX10_bottleneck d mc ms Q (kc - cc) (ks - cs) 10 L (r.toList ++ rest) n' ws') : xX l tX10_bottleneck d mc ms Q kc ks 7 L (v0 :: .ref b :: rest) n ws := xcallV (t := tX10_bottleneck) (As := [v0]) rfl mX10_noGood k10_98 (by decide +kernel) rfl rfl hw (by decide) hr hd hkc hks hM k
theorem cX10_bottleneck_17 {l : Launch} {d mc ms : Nat} {Q : xP} {kc ks n : Nat} {L : xL} {rest : List Value} {ws : xW} {b : Nat} {vs : List Value} (hw : ws b = some (10, .inr (.inr (.inr vs)))) {dc cc cs : Nat} {Q' : xP} (hd : dc + 1 ≤ d) (hkc : cc ≤ kc) (hks : cs ≤ ks) (hr : (rest.map fun v => v.category).sum ≤ 8) (hM : xM l tX10_findRates dc cc cs [.ref b] n ws Q') (k : ∀ r n' ws', Q' r n' ws' → xX l tX10_bottleneck d mc ms Q (kc - cc) (ks - cs) 20 L (r.toList ++ rest) n' ws') : xX l tX10_bottleneck d mc ms Q kc ks 17 L (.ref b :: rest) n ws := xcallV (t := tX10_bottleneck) (As := []) rfl mX10_findRates k10_143 (by decide +kernel) rfl rfl hw (by decide) hr hd hkc hks hM k
def oX10_has_0 : List xO := [(.iload_n 0, 0, 0), (.iload_n 1, 0, 0), (.ishr, 0, 0), (.iconst 1, 0, 0), (.iand, 0, 0), (.iconst 1, 0, 0), (.if_icmp .ne 7, 13, 0), (.iconst 1, 0, 0), (.goto 4, 14, 0)]
def oX10_has_13 : List xO := [(.iconst 0, 0, 0)]
def oX10_has_14 : List xO := [(.ireturn, 0, 0)]
def AX10_has : List (Nat × List xO) := [(0, oX10_has_0), (13, oX10_has_13), (14, oX10_has_14)]
theorem aX10_has : xTok tX10_has AX10_has = true := by decide +kernel
theorem rX10_has : tX10_has.2.2.2.2 = (some .boolean) := rfl
def oX10_more_0 : List xO := [(.aload_n 0, 0, 0), (.iconst 0, 0, 0), (.putfield 1, 10, 0), (.aload_n 0, 0, 0), (.iload_n 1, 0, 0)]
def oX10_more_10 : List xO := [(.ifCond .eq 6, 16, 0), (.bipush (-2), 0, 0), (.ireturn, 0, 0)]
def oX10_more_16 : List xO := [(.aload_n 0, 0, 0)]
def oX10_more_20 : List xO := [(.iconst 0, 0, 0), (.istore_n 2, 0, 0)]
def oX10_more_22 : List xO := [(.iload_n 2, 0, 0), (.aload_n 0, 0, 0), (.getfield 82, 10, 2), (.if_icmp .ge 31, 58, 0), (.aload_n 0, 0, 0), (.getfield 62, 10, 22), (.iload_n 2, 0, 0), (.aload_n 0, 0, 0), (.getfield 20, 10, 5), (.iload_n 2, 0, 0), (.iaload, 0, 0), (.aload_n 0, 0, 0), (.aload_n 0, 0, 0), (.getfield 59, 10, 19), (.iload_n 2, 0, 0)]
def oX10_more_50 : List xO := [(.isub, 0, 0), (.iastore, 0, 0), (.iinc 2 1, 0, 0), (.goto (-33), 22, 0)]
def oX10_more_58 : List xO := [(.iconst (-1), 0, 0), (.istore_n 2, 0, 0), (.iconst 0, 0, 0), (.istore_n 3, 0, 0)]
def oX10_more_62 : List xO := [(.iload_n 3, 0, 0), (.iconst 1, 0, 0), (.aload_n 0, 0, 0), (.getfield 75, 10, 1), (.ishl, 0, 0), (.if_icmp .ge 118, 187, 0), (.iload_n 3, 0, 0), (.aload_n 0, 0, 0), (.getfield 26, 10, 8), (.iload_n 1, 0, 0), (.iaload, 0, 0)]
def oX10_more_82 : List xO := [(.ifCond .eq 99, 181, 0), (.iload_n 3, 0, 0), (.aload_n 0, 0, 0), (.getfield 29, 10, 9), (.iload_n 1, 0, 0), (.iaload, 0, 0)]
def oX10_more_95 : List xO := [(.ifCond .ne 86, 181, 0), (.iconst 0, 0, 0), (.istore 4, 0, 0), (.iconst 0, 0, 0), (.istore 5, 0, 0)]
def oX10_more_104 : List xO := [(.iload 5, 0, 0), (.aload_n 0, 0, 0), (.getfield 82, 10, 2), (.if_icmp .ge 54, 164, 0), (.iload_n 3, 0, 0), (.aload_n 0, 0, 0), (.getfield 13, 10, 3), (.iload 5, 0, 0), (.iaload, 0, 0)]
def oX10_more_124 : List xO := [(.ifCond .eq 30, 154, 0), (.iload_n 3, 0, 0), (.aload_n 0, 0, 0), (.getfield 17, 10, 4), (.iload 5, 0, 0), (.iaload, 0, 0)]
def oX10_more_138 : List xO := [(.ifCond .ne 16, 154, 0), (.iload 4, 0, 0), (.aload_n 0, 0, 0), (.getfield 62, 10, 22), (.iload 5, 0, 0), (.iaload, 0, 0), (.iadd, 0, 0), (.goto 5, 156, 0)]
def oX10_more_154 : List xO := [(.iload 4, 0, 0)]
def oX10_more_156 : List xO := [(.istore 4, 0, 0), (.iinc 5 1, 0, 0), (.goto (-57), 104, 0)]
def oX10_more_164 : List xO := [(.iload_n 2, 0, 0), (.ifCond .lt 9, 174, 0), (.iload 4, 0, 0), (.iload_n 2, 0, 0), (.if_icmp .ge 8, 179, 0)]
def oX10_more_174 : List xO := [(.iload 4, 0, 0), (.goto 4, 180, 0)]
def oX10_more_179 : List xO := [(.iload_n 2, 0, 0)]
def oX10_more_180 : List xO := [(.istore_n 2, 0, 0)]
def oX10_more_181 : List xO := [(.iinc 3 1, 0, 0), (.goto (-122), 62, 0)]
def oX10_more_187 : List xO := [(.iload_n 2, 0, 0), (.ireturn, 0, 0)]
def AX10_more : List (Nat × List xO) := [(0, oX10_more_0), (10, oX10_more_10), (16, oX10_more_16), (20, oX10_more_20), (22, oX10_more_22), (50, oX10_more_50), (58, oX10_more_58), (62, oX10_more_62), (82, oX10_more_82), (95, oX10_more_95), (104, oX10_more_104), (124, oX10_more_124), (138, oX10_more_138), (154, oX10_more_154), (156, oX10_more_156), (164, oX10_more_164), (174, oX10_more_174), (179, oX10_more_179), (180, oX10_more_180), (181, oX10_more_181), (187, oX10_more_187)]
theorem aX10_more : xTok tX10_more AX10_more = true := by decide +kernel
theorem rX10_more : tX10_more.2.2.2.2 = (some .int) := rfl
theorem cX10_more_7 {l : Launch} {d mc ms : Nat} {Q : xP} {kc ks n : Nat} {L : xL} {rest : List Value} {ws : xW} {v0 : Value} {b : Nat} {vs : List Value} (hw : ws b = some (10, .inr (.inr (.inr vs)))) {dc cc cs : Nat} {Q' : xP} (hd : dc + 1 ≤ d) (hkc : cc ≤ kc) (hks : cs ≤ ks) (hr : (rest.map fun v => v.category).sum ≤ 8) (hM : xM l tX10_noGood dc cc cs [.ref b, v0] n ws Q') (k : ∀ r n' ws', Q' r n' ws' → xX l tX10_more d mc ms Q (kc - cc) (ks - cs) 10 L (r.toList ++ rest) n' ws') : xX l tX10_more d mc ms Q kc ks 7 L (v0 :: .ref b :: rest) n ws := xcallV (t := tX10_more) (As := [v0]) rfl mX10_noGood k10_98 (by decide +kernel) rfl rfl hw (by decide) hr hd hkc hks hM k
theorem cX10_more_17 {l : Launch} {d mc ms : Nat} {Q : xP} {kc ks n : Nat} {L : xL} {rest : List Value} {ws : xW} {b : Nat} {vs : List Value} (hw : ws b = some (10, .inr (.inr (.inr vs)))) {dc cc cs : Nat} {Q' : xP} (hd : dc + 1 ≤ d) (hkc : cc ≤ kc) (hks : cs ≤ ks) (hr : (rest.map fun v => v.category).sum ≤ 8) (hM : xM l tX10_findBest dc cc cs [.ref b] n ws Q') (k : ∀ r n' ws', Q' r n' ws' → xX l tX10_more d mc ms Q (kc - cc) (ks - cs) 20 L (r.toList ++ rest) n' ws') : xX l tX10_more d mc ms Q kc ks 17 L (.ref b :: rest) n ws := xcallV (t := tX10_more) (As := []) rfl mX10_findBest k10_129 (by decide +kernel) rfl rfl hw (by decide) hr hd hkc hks hM k
theorem cX10_more_47 {l : Launch} {d mc ms : Nat} {Q : xP} {kc ks n : Nat} {L : xL} {rest : List Value} {ws : xW} {v0 v1 : Value} {b : Nat} {vs : List Value} (hw : ws b = some (10, .inr (.inr (.inr vs)))) {dc cc cs : Nat} {Q' : xP} (hd : dc + 1 ≤ d) (hkc : cc ≤ kc) (hks : cs ≤ ks) (hr : (rest.map fun v => v.category).sum ≤ 8) (hM : xM l tX10_loadOf dc cc cs [.ref b, v0, v1] n ws Q') (k : ∀ r n' ws', Q' r n' ws' → xX l tX10_more d mc ms Q (kc - cc) (ks - cs) 50 L (r.toList ++ rest) n' ws') : xX l tX10_more d mc ms Q kc ks 47 L (v1 :: v0 :: .ref b :: rest) n ws := xcallV (t := tX10_more) (As := [v0, v1]) rfl mX10_loadOf k10_135 (by decide +kernel) rfl rfl hw (by decide) hr hd hkc hks hM k
theorem cX10_more_79 {l : Launch} {d mc ms : Nat} {Q : xP} {kc ks n : Nat} {L : xL} {rest : List Value} {ws : xW} {v0 v1 : Value} {dc cc cs : Nat} {Q' : xP} (hd : dc + 1 ≤ d) (hkc : cc ≤ kc) (hks : cs ≤ ks) (hr : (rest.map fun v => v.category).sum ≤ 8) (hM : xM l tX10_has dc cc cs [v0, v1] n ws Q') (k : ∀ r n' ws', Q' r n' ws' → xX l tX10_more d mc ms Q (kc - cc) (ks - cs) 82 L (r.toList ++ rest) n' ws') : xX l tX10_more d mc ms Q kc ks 79 L (v1 :: v0 :: rest) n ws := xcallS (t := tX10_more) (As := [v0, v1]) rfl mX10_has k10_146 (by decide +kernel) rfl rfl hr hd hkc hks hM k
theorem cX10_more_92 {l : Launch} {d mc ms : Nat} {Q : xP} {kc ks n : Nat} {L : xL} {rest : List Value} {ws : xW} {v0 v1 : Value} {dc cc cs : Nat} {Q' : xP} (hd : dc + 1 ≤ d) (hkc : cc ≤ kc) (hks : cs ≤ ks) (hr : (rest.map fun v => v.category).sum ≤ 8) (hM : xM l tX10_has dc cc cs [v0, v1] n ws Q') (k : ∀ r n' ws', Q' r n' ws' → xX l tX10_more d mc ms Q (kc - cc) (ks - cs) 95 L (r.toList ++ rest) n' ws') : xX l tX10_more d mc ms Q kc ks 92 L (v1 :: v0 :: rest) n ws := xcallS (t := tX10_more) (As := [v0, v1]) rfl mX10_has k10_146 (by decide +kernel) rfl rfl hr hd hkc hks hM k
theorem cX10_more_121 {l : Launch} {d mc ms : Nat} {Q : xP} {kc ks n : Nat} {L : xL} {rest : List Value} {ws : xW} {v0 v1 : Value} {dc cc cs : Nat} {Q' : xP} (hd : dc + 1 ≤ d) (hkc : cc ≤ kc) (hks : cs ≤ ks) (hr : (rest.map fun v => v.category).sum ≤ 8) (hM : xM l tX10_has dc cc cs [v0, v1] n ws Q') (k : ∀ r n' ws', Q' r n' ws' → xX l tX10_more d mc ms Q (kc - cc) (ks - cs) 124 L (r.toList ++ rest) n' ws') : xX l tX10_more d mc ms Q kc ks 121 L (v1 :: v0 :: rest) n ws := xcallS (t := tX10_more) (As := [v0, v1]) rfl mX10_has k10_146 (by decide +kernel) rfl rfl hr hd hkc hks hM k
theorem cX10_more_135 {l : Launch} {d mc ms : Nat} {Q : xP} {kc ks n : Nat} {L : xL} {rest : List Value} {ws : xW} {v0 v1 : Value} {dc cc cs : Nat} {Q' : xP} (hd : dc + 1 ≤ d) (hkc : cc ≤ kc) (hks : cs ≤ ks) (hr : (rest.map fun v => v.category).sum ≤ 8) (hM : xM l tX10_has dc cc cs [v0, v1] n ws Q') (k : ∀ r n' ws', Q' r n' ws' → xX l tX10_more d mc ms Q (kc - cc) (ks - cs) 138 L (r.toList ++ rest) n' ws') : xX l tX10_more d mc ms Q kc ks 135 L (v1 :: v0 :: rest) n ws := xcallS (t := tX10_more) (As := [v0, v1]) rfl mX10_has k10_146 (by decide +kernel) rfl rfl hr hd hkc hks hM k
def oX10_cut_0 : List xO := [(.aload_n 0, 0, 0), (.iconst 0, 0, 0), (.putfield 1, 10, 0), (.iconst 0, 0, 0), (.istore_n 1, 0, 0)]
def oX10_cut_7 : List xO := [(.iload_n 1, 0, 0), (.iconst 1, 0, 0), (.aload_n 0, 0, 0), (.getfield 75, 10, 1), (.ishl, 0, 0), (.if_icmp .ge 140, 154, 0), (.iconst 0, 0, 0), (.istore_n 2, 0, 0), (.iconst 0, 0, 0), (.istore_n 3, 0, 0), (.iconst 0, 0, 0), (.istore 4, 0, 0)]
def oX10_cut_24 : List xO := [(.iload 4, 0, 0), (.aload_n 0, 0, 0), (.getfield 82, 10, 2), (.if_icmp .ge 51, 81, 0), (.iload_n 1, 0, 0), (.aload_n 0, 0, 0), (.getfield 13, 10, 3), (.iload 4, 0, 0), (.iaload, 0, 0)]
def oX10_cut_44 : List xO := [(.ifCond .eq 29, 73, 0), (.iload_n 1, 0, 0), (.aload_n 0, 0, 0), (.getfield 17, 10, 4), (.iload 4, 0, 0), (.iaload, 0, 0)]
def oX10_cut_58 : List xO := [(.ifCond .ne 15, 73, 0), (.iload_n 2, 0, 0), (.aload_n 0, 0, 0), (.getfield 20, 10, 5), (.iload 4, 0, 0), (.iaload, 0, 0), (.iadd, 0, 0), (.goto 4, 74, 0)]
def oX10_cut_73 : List xO := [(.iload_n 2, 0, 0)]
def oX10_cut_74 : List xO := [(.istore_n 2, 0, 0), (.iinc 4 1, 0, 0), (.goto (-54), 24, 0)]
def oX10_cut_81 : List xO := [(.iconst 0, 0, 0), (.istore 4, 0, 0)]
def oX10_cut_84 : List xO := [(.iload 4, 0, 0), (.aload_n 0, 0, 0), (.getfield 85, 10, 7), (.if_icmp .ge 51, 141, 0), (.iload_n 1, 0, 0), (.aload_n 0, 0, 0), (.getfield 26, 10, 8), (.iload 4, 0, 0), (.iaload, 0, 0)]
def oX10_cut_104 : List xO := [(.ifCond .eq 29, 133, 0), (.iload_n 1, 0, 0), (.aload_n 0, 0, 0), (.getfield 29, 10, 9), (.iload 4, 0, 0), (.iaload, 0, 0)]
def oX10_cut_118 : List xO := [(.ifCond .ne 15, 133, 0), (.iload_n 3, 0, 0), (.aload_n 0, 0, 0), (.getfield 32, 10, 10), (.iload 4, 0, 0), (.iaload, 0, 0), (.iadd, 0, 0), (.goto 4, 134, 0)]
def oX10_cut_133 : List xO := [(.iload_n 3, 0, 0)]
def oX10_cut_134 : List xO := [(.istore_n 3, 0, 0), (.iinc 4 1, 0, 0), (.goto (-54), 84, 0)]
def oX10_cut_141 : List xO := [(.iload_n 2, 0, 0), (.iload_n 3, 0, 0), (.if_icmp .ge 5, 148, 0), (.iload_n 1, 0, 0), (.ireturn, 0, 0)]
def oX10_cut_148 : List xO := [(.iinc 1 1, 0, 0), (.goto (-144), 7, 0)]
def oX10_cut_154 : List xO := [(.iconst (-1), 0, 0), (.ireturn, 0, 0)]
def AX10_cut : List (Nat × List xO) := [(0, oX10_cut_0), (7, oX10_cut_7), (24, oX10_cut_24), (44, oX10_cut_44), (58, oX10_cut_58), (73, oX10_cut_73), (74, oX10_cut_74), (81, oX10_cut_81), (84, oX10_cut_84), (104, oX10_cut_104), (118, oX10_cut_118), (133, oX10_cut_133), (134, oX10_cut_134), (141, oX10_cut_141), (148, oX10_cut_148), (154, oX10_cut_154)]
theorem aX10_cut : xTok tX10_cut AX10_cut = true := by decide +kernel
theorem rX10_cut : tX10_cut.2.2.2.2 = (some .int) := rfl
theorem cX10_cut_41 {l : Launch} {d mc ms : Nat} {Q : xP} {kc ks n : Nat} {L : xL} {rest : List Value} {ws : xW} {v0 v1 : Value} {dc cc cs : Nat} {Q' : xP} (hd : dc + 1 ≤ d) (hkc : cc ≤ kc) (hks : cs ≤ ks) (hr : (rest.map fun v => v.category).sum ≤ 8) (hM : xM l tX10_has dc cc cs [v0, v1] n ws Q') (k : ∀ r n' ws', Q' r n' ws' → xX l tX10_cut d mc ms Q (kc - cc) (ks - cs) 44 L (r.toList ++ rest) n' ws') : xX l tX10_cut d mc ms Q kc ks 41 L (v1 :: v0 :: rest) n ws := xcallS (t := tX10_cut) (As := [v0, v1]) rfl mX10_has k10_146 (by decide +kernel) rfl rfl hr hd hkc hks hM k
theorem cX10_cut_55 {l : Launch} {d mc ms : Nat} {Q : xP} {kc ks n : Nat} {L : xL} {rest : List Value} {ws : xW} {v0 v1 : Value} {dc cc cs : Nat} {Q' : xP} (hd : dc + 1 ≤ d) (hkc : cc ≤ kc) (hks : cs ≤ ks) (hr : (rest.map fun v => v.category).sum ≤ 8) (hM : xM l tX10_has dc cc cs [v0, v1] n ws Q') (k : ∀ r n' ws', Q' r n' ws' → xX l tX10_cut d mc ms Q (kc - cc) (ks - cs) 58 L (r.toList ++ rest) n' ws') : xX l tX10_cut d mc ms Q kc ks 55 L (v1 :: v0 :: rest) n ws := xcallS (t := tX10_cut) (As := [v0, v1]) rfl mX10_has k10_146 (by decide +kernel) rfl rfl hr hd hkc hks hM k
theorem cX10_cut_101 {l : Launch} {d mc ms : Nat} {Q : xP} {kc ks n : Nat} {L : xL} {rest : List Value} {ws : xW} {v0 v1 : Value} {dc cc cs : Nat} {Q' : xP} (hd : dc + 1 ≤ d) (hkc : cc ≤ kc) (hks : cs ≤ ks) (hr : (rest.map fun v => v.category).sum ≤ 8) (hM : xM l tX10_has dc cc cs [v0, v1] n ws Q') (k : ∀ r n' ws', Q' r n' ws' → xX l tX10_cut d mc ms Q (kc - cc) (ks - cs) 104 L (r.toList ++ rest) n' ws') : xX l tX10_cut d mc ms Q kc ks 101 L (v1 :: v0 :: rest) n ws := xcallS (t := tX10_cut) (As := [v0, v1]) rfl mX10_has k10_146 (by decide +kernel) rfl rfl hr hd hkc hks hM k
theorem cX10_cut_115 {l : Launch} {d mc ms : Nat} {Q : xP} {kc ks n : Nat} {L : xL} {rest : List Value} {ws : xW} {v0 v1 : Value} {dc cc cs : Nat} {Q' : xP} (hd : dc + 1 ≤ d) (hkc : cc ≤ kc) (hks : cs ≤ ks) (hr : (rest.map fun v => v.category).sum ≤ 8) (hM : xM l tX10_has dc cc cs [v0, v1] n ws Q') (k : ∀ r n' ws', Q' r n' ws' → xX l tX10_cut d mc ms Q (kc - cc) (ks - cs) 118 L (r.toList ++ rest) n' ws') : xX l tX10_cut d mc ms Q kc ks 115 L (v1 :: v0 :: rest) n ws := xcallS (t := tX10_cut) (As := [v0, v1]) rfl mX10_has k10_146 (by decide +kernel) rfl rfl hr hd hkc hks hM k
def oX10_count_0 : List xO := [(.aload_n 0, 0, 0), (.iconst 0, 0, 0), (.putfield 1, 10, 0), (.iconst 0, 0, 0), (.istore_n 2, 0, 0), (.iload_n 1, 0, 0)]
def oX10_count_48 : List xO := [(.aload_n 0, 0, 0), (.getfield 75, 10, 1), (.ireturn, 0, 0)]
def oX10_count_53 : List xO := [(.aload_n 0, 0, 0), (.getfield 82, 10, 2), (.ireturn, 0, 0)]
def oX10_count_58 : List xO := [(.aload_n 0, 0, 0), (.getfield 85, 10, 7), (.ireturn, 0, 0)]
def oX10_count_63 : List xO := [(.iconst 0, 0, 0), (.istore_n 3, 0, 0)]
def oX10_count_65 : List xO := [(.iload_n 3, 0, 0), (.aload_n 0, 0, 0), (.getfield 82, 10, 2), (.if_icmp .ge 18, 88, 0), (.iload_n 2, 0, 0), (.aload_n 0, 0, 0), (.getfield 20, 10, 5), (.iload_n 3, 0, 0), (.iaload, 0, 0), (.iadd, 0, 0), (.istore_n 2, 0, 0), (.iinc 3 1, 0, 0), (.goto (-20), 65, 0)]
def oX10_count_88 : List xO := [(.iload_n 2, 0, 0), (.ireturn, 0, 0)]
def oX10_count_90 : List xO := [(.iconst 0, 0, 0), (.istore_n 3, 0, 0)]
def oX10_count_92 : List xO := [(.iload_n 3, 0, 0), (.aload_n 0, 0, 0), (.getfield 85, 10, 7), (.if_icmp .ge 34, 131, 0), (.iload_n 1, 0, 0), (.iconst 4, 0, 0), (.if_icmp .ne 14, 116, 0), (.iload_n 2, 0, 0), (.aload_n 0, 0, 0), (.getfield 32, 10, 10), (.iload_n 3, 0, 0), (.iaload, 0, 0), (.iadd, 0, 0), (.goto 11, 124, 0)]
def oX10_count_116 : List xO := [(.iload_n 2, 0, 0), (.aload_n 0, 0, 0), (.getfield 35, 10, 11), (.iload_n 3, 0, 0), (.iaload, 0, 0), (.iadd, 0, 0)]
def oX10_count_124 : List xO := [(.istore_n 2, 0, 0), (.iinc 3 1, 0, 0), (.goto (-36), 92, 0)]
def oX10_count_131 : List xO := [(.iload_n 2, 0, 0), (.ireturn, 0, 0)]
def oX10_count_133 : List xO := [(.bipush (-2), 0, 0), (.ireturn, 0, 0)]
def AX10_count : List (Nat × List xO) := [(0, oX10_count_0), (48, oX10_count_48), (53, oX10_count_53), (58, oX10_count_58), (63, oX10_count_63), (65, oX10_count_65), (88, oX10_count_88), (90, oX10_count_90), (92, oX10_count_92), (116, oX10_count_116), (124, oX10_count_124), (131, oX10_count_131), (133, oX10_count_133)]
theorem aX10_count : xTok tX10_count AX10_count = true := by decide +kernel
theorem rX10_count : tX10_count.2.2.2.2 = (some .int) := rfl
end
section
/-- the int of an integer -/
def I (x : Int) : Int32 := Int32.ofInt x
theorem x_iconst {X : xXt} {Q : xP} {rt : Option FieldType} {K : xKt} {a b pc kc ks n : Nat} {L : xL} {ws : xW} {st r : List Value} {v : Int} : xs X Q rt K (.iconst v, a, b) pc kc ks L st n ws = (K kc ks L (.int (I v) :: st) n ws) := rfl
theorem x_bipush {X : xXt} {Q : xP} {rt : Option FieldType} {K : xKt} {a b pc kc ks n : Nat} {L : xL} {ws : xW} {st r : List Value} {v : Int} : xs X Q rt K (.bipush v, a, b) pc kc ks L st n ws = (K kc ks L (.int (Int8.ofInt v).toInt32 :: st) n ws) := rfl
theorem x_sipush {X : xXt} {Q : xP} {rt : Option FieldType} {K : xKt} {a b pc kc ks n : Nat} {L : xL} {ws : xW} {st r : List Value} {v : Int} : xs X Q rt K (.sipush v, a, b) pc kc ks L st n ws = (K kc ks L (.int (Int16.ofInt v).toInt32 :: st) n ws) := rfl
theorem x_lconst {X : xXt} {Q : xP} {rt : Option FieldType} {K : xKt} {a b pc kc ks n : Nat} {L : xL} {ws : xW} {st r : List Value} {v : Fin 2} : xs X Q rt K (.lconst v, a, b) pc kc ks L st n ws = (K kc ks L (.long (Int64.ofNat (v : Nat)) :: st) n ws) := rfl
theorem x_iload_n {X : xXt} {Q : xP} {rt : Option FieldType} {K : xKt} {a b pc kc ks n : Nat} {L : xL} {ws : xW} {st r : List Value} {i : Fin 4} : xs X Q rt K (.iload_n i, a, b) pc kc ks L st n ws = (match xl L i with | some (.int x) => K kc ks L (.int x :: st) n ws | _ => False) := rfl
theorem x_iload {X : xXt} {Q : xP} {rt : Option FieldType} {K : xKt} {a b pc kc ks n : Nat} {L : xL} {ws : xW} {st r : List Value} {i : Nat} : xs X Q rt K (.iload i, a, b) pc kc ks L st n ws = (match xl L i with | some (.int x) => K kc ks L (.int x :: st) n ws | _ => False) := rfl
theorem x_lload_n {X : xXt} {Q : xP} {rt : Option FieldType} {K : xKt} {a b pc kc ks n : Nat} {L : xL} {ws : xW} {st r : List Value} {i : Fin 4} : xs X Q rt K (.lload_n i, a, b) pc kc ks L st n ws = (match xl L i with | some (.long x) => K kc ks L (.long x :: st) n ws | _ => False) := rfl
theorem x_lload {X : xXt} {Q : xP} {rt : Option FieldType} {K : xKt} {a b pc kc ks n : Nat} {L : xL} {ws : xW} {st r : List Value} {i : Nat} : xs X Q rt K (.lload i, a, b) pc kc ks L st n ws = (match xl L i with | some (.long x) => K kc ks L (.long x :: st) n ws | _ => False) := rfl
theorem x_aload_n {X : xXt} {Q : xP} {rt : Option FieldType} {K : xKt} {a b pc kc ks n : Nat} {L : xL} {ws : xW} {st r : List Value} {i : Fin 4} : xs X Q rt K (.aload_n i, a, b) pc kc ks L st n ws = (match xl L i with | some (.ref x) => K kc ks L (.ref x :: st) n ws | _ => False) := rfl
theorem x_aload {X : xXt} {Q : xP} {rt : Option FieldType} {K : xKt} {a b pc kc ks n : Nat} {L : xL} {ws : xW} {st r : List Value} {i : Nat} : xs X Q rt K (.aload i, a, b) pc kc ks L st n ws = (match xl L i with | some (.ref x) => K kc ks L (.ref x :: st) n ws | _ => False) := rfl
theorem x_istore_n {X : xXt} {Q : xP} {rt : Option FieldType} {K : xKt} {a b pc kc ks n : Nat} {L : xL} {ws : xW} {st r : List Value} {i : Fin 4} {x : Int32} : xs X Q rt K (.istore_n i, a, b) pc kc ks L (.int x :: r) n ws = (K kc ks (xst L i (.int x)) r n ws) := rfl
theorem x_istore {X : xXt} {Q : xP} {rt : Option FieldType} {K : xKt} {a b pc kc ks n : Nat} {L : xL} {ws : xW} {st r : List Value} {i : Nat} {x : Int32} : xs X Q rt K (.istore i, a, b) pc kc ks L (.int x :: r) n ws = (K kc ks (xst L i (.int x)) r n ws) := rfl
theorem x_lstore_n {X : xXt} {Q : xP} {rt : Option FieldType} {K : xKt} {a b pc kc ks n : Nat} {L : xL} {ws : xW} {st r : List Value} {i : Fin 4} {x : Int64} : xs X Q rt K (.lstore_n i, a, b) pc kc ks L (.long x :: r) n ws = (K kc ks (xst2 L i (.long x)) r n ws) := rfl
theorem x_lstore {X : xXt} {Q : xP} {rt : Option FieldType} {K : xKt} {a b pc kc ks n : Nat} {L : xL} {ws : xW} {st r : List Value} {i : Nat} {x : Int64} : xs X Q rt K (.lstore i, a, b) pc kc ks L (.long x :: r) n ws = (K kc ks (xst2 L i (.long x)) r n ws) := rfl
theorem x_astore_n {X : xXt} {Q : xP} {rt : Option FieldType} {K : xKt} {a b pc kc ks n : Nat} {L : xL} {ws : xW} {st r : List Value} {i : Fin 4} {x : Nat} : xs X Q rt K (.astore_n i, a, b) pc kc ks L (.ref x :: r) n ws = (K kc ks (xst L i (.ref x)) r n ws) := rfl
theorem x_astore {X : xXt} {Q : xP} {rt : Option FieldType} {K : xKt} {a b pc kc ks n : Nat} {L : xL} {ws : xW} {st r : List Value} {i : Nat} {x : Nat} : xs X Q rt K (.astore i, a, b) pc kc ks L (.ref x :: r) n ws = (K kc ks (xst L i (.ref x)) r n ws) := rfl
theorem x_iinc {X : xXt} {Q : xP} {rt : Option FieldType} {K : xKt} {a b pc kc ks n : Nat} {L : xL} {ws : xW} {st r : List Value} {i : Nat} {v : Int} : xs X Q rt K (.iinc i v, a, b) pc kc ks L st n ws = (match xl L i with | some (.int x) => K kc ks (xst L i (.int (x + I v))) st n ws | _ => False) := rfl
theorem x_iadd {X : xXt} {Q : xP} {rt : Option FieldType} {K : xKt} {a b pc kc ks n : Nat} {L : xL} {ws : xW} {st r : List Value} {x y : Int32} : xs X Q rt K (.iadd, a, b) pc kc ks L (.int y :: .int x :: r) n ws = (K kc ks L (.int (x + y) :: r) n ws) := rfl
theorem x_isub {X : xXt} {Q : xP} {rt : Option FieldType} {K : xKt} {a b pc kc ks n : Nat} {L : xL} {ws : xW} {st r : List Value} {x y : Int32} : xs X Q rt K (.isub, a, b) pc kc ks L (.int y :: .int x :: r) n ws = (K kc ks L (.int (x - y) :: r) n ws) := rfl
theorem x_imul {X : xXt} {Q : xP} {rt : Option FieldType} {K : xKt} {a b pc kc ks n : Nat} {L : xL} {ws : xW} {st r : List Value} {x y : Int32} : xs X Q rt K (.imul, a, b) pc kc ks L (.int y :: .int x :: r) n ws = (K kc ks L (.int (x * y) :: r) n ws) := rfl
theorem x_iand {X : xXt} {Q : xP} {rt : Option FieldType} {K : xKt} {a b pc kc ks n : Nat} {L : xL} {ws : xW} {st r : List Value} {x y : Int32} : xs X Q rt K (.iand, a, b) pc kc ks L (.int y :: .int x :: r) n ws = (K kc ks L (.int (x &&& y) :: r) n ws) := rfl
theorem x_ior {X : xXt} {Q : xP} {rt : Option FieldType} {K : xKt} {a b pc kc ks n : Nat} {L : xL} {ws : xW} {st r : List Value} {x y : Int32} : xs X Q rt K (.ior, a, b) pc kc ks L (.int y :: .int x :: r) n ws = (K kc ks L (.int (x ||| y) :: r) n ws) := rfl
theorem x_ixor {X : xXt} {Q : xP} {rt : Option FieldType} {K : xKt} {a b pc kc ks n : Nat} {L : xL} {ws : xW} {st r : List Value} {x y : Int32} : xs X Q rt K (.ixor, a, b) pc kc ks L (.int y :: .int x :: r) n ws = (K kc ks L (.int (x ^^^ y) :: r) n ws) := rfl
theorem x_ishl {X : xXt} {Q : xP} {rt : Option FieldType} {K : xKt} {a b pc kc ks n : Nat} {L : xL} {ws : xW} {st r : List Value} {x y : Int32} : xs X Q rt K (.ishl, a, b) pc kc ks L (.int y :: .int x :: r) n ws = (K kc ks L (.int (x <<< (y &&& 31)) :: r) n ws) := rfl
theorem x_ishr {X : xXt} {Q : xP} {rt : Option FieldType} {K : xKt} {a b pc kc ks n : Nat} {L : xL} {ws : xW} {st r : List Value} {x y : Int32} : xs X Q rt K (.ishr, a, b) pc kc ks L (.int y :: .int x :: r) n ws = (K kc ks L (.int (x >>> (y &&& 31)) :: r) n ws) := rfl
theorem x_ineg {X : xXt} {Q : xP} {rt : Option FieldType} {K : xKt} {a b pc kc ks n : Nat} {L : xL} {ws : xW} {st r : List Value} {x : Int32} : xs X Q rt K (.ineg, a, b) pc kc ks L (.int x :: r) n ws = (K kc ks L (.int (-x) :: r) n ws) := rfl
theorem x_ladd {X : xXt} {Q : xP} {rt : Option FieldType} {K : xKt} {a b pc kc ks n : Nat} {L : xL} {ws : xW} {st r : List Value} {x y : Int64} : xs X Q rt K (.ladd, a, b) pc kc ks L (.long y :: .long x :: r) n ws = (K kc ks L (.long (x + y) :: r) n ws) := rfl
theorem x_lsub {X : xXt} {Q : xP} {rt : Option FieldType} {K : xKt} {a b pc kc ks n : Nat} {L : xL} {ws : xW} {st r : List Value} {x y : Int64} : xs X Q rt K (.lsub, a, b) pc kc ks L (.long y :: .long x :: r) n ws = (K kc ks L (.long (x - y) :: r) n ws) := rfl
theorem x_lmul {X : xXt} {Q : xP} {rt : Option FieldType} {K : xKt} {a b pc kc ks n : Nat} {L : xL} {ws : xW} {st r : List Value} {x y : Int64} : xs X Q rt K (.lmul, a, b) pc kc ks L (.long y :: .long x :: r) n ws = (K kc ks L (.long (x * y) :: r) n ws) := rfl
theorem x_ldiv {X : xXt} {Q : xP} {rt : Option FieldType} {K : xKt} {a b pc kc ks n : Nat} {L : xL} {ws : xW} {st r : List Value} {x y : Int64} : xs X Q rt K (.ldiv, a, b) pc kc ks L (.long y :: .long x :: r) n ws = (¬ y = 0 ∧ K kc ks L (.long (x / y) :: r) n ws) := rfl
theorem x_lrem {X : xXt} {Q : xP} {rt : Option FieldType} {K : xKt} {a b pc kc ks n : Nat} {L : xL} {ws : xW} {st r : List Value} {x y : Int64} : xs X Q rt K (.lrem, a, b) pc kc ks L (.long y :: .long x :: r) n ws = (¬ y = 0 ∧ K kc ks L (.long (x - x / y * y) :: r) n ws) := rfl
theorem x_lcmp {X : xXt} {Q : xP} {rt : Option FieldType} {K : xKt} {a b pc kc ks n : Nat} {L : xL} {ws : xW} {st r : List Value} {x y : Int64} : xs X Q rt K (.lcmp, a, b) pc kc ks L (.long y :: .long x :: r) n ws = (K kc ks L (.int (lg_cmp x y) :: r) n ws) := rfl
theorem x_i2l {X : xXt} {Q : xP} {rt : Option FieldType} {K : xKt} {a b pc kc ks n : Nat} {L : xL} {ws : xW} {st r : List Value} {x : Int32} : xs X Q rt K (.i2l, a, b) pc kc ks L (.int x :: r) n ws = (K kc ks L (.long x.toInt64 :: r) n ws) := rfl
theorem x_l2i {X : xXt} {Q : xP} {rt : Option FieldType} {K : xKt} {a b pc kc ks n : Nat} {L : xL} {ws : xW} {st r : List Value} {x : Int64} : xs X Q rt K (.l2i, a, b) pc kc ks L (.long x :: r) n ws = (K kc ks L (.int x.toInt32 :: r) n ws) := rfl
theorem x_dup {X : xXt} {Q : xP} {rt : Option FieldType} {K : xKt} {a b pc kc ks n : Nat} {L : xL} {ws : xW} {st r : List Value} {v : Value} : xs X Q rt K (.dup, a, b) pc kc ks L (v :: r) n ws = (v.category = 1 ∧ K kc ks L (v :: v :: r) n ws) := rfl
theorem x_dup_x1 {X : xXt} {Q : xP} {rt : Option FieldType} {K : xKt} {a b pc kc ks n : Nat} {L : xL} {ws : xW} {st r : List Value} {v w : Value} : xs X Q rt K (.dup_x1, a, b) pc kc ks L (v :: w :: r) n ws = (v.category = 1 ∧ w.category = 1 ∧ K kc ks L (v :: w :: v :: r) n ws) := rfl
theorem x_dup2 {X : xXt} {Q : xP} {rt : Option FieldType} {K : xKt} {a b pc kc ks n : Nat} {L : xL} {ws : xW} {st r : List Value} {v w : Value} : xs X Q rt K (.dup2, a, b) pc kc ks L (v :: w :: r) n ws = (v.category = 1 ∧ w.category = 1 ∧ K kc ks L (v :: w :: v :: w :: r) n ws) := rfl
theorem x_if_eq {X : xXt} {Q : xP} {rt : Option FieldType} {K : xKt} {a b pc kc ks n : Nat} {L : xL} {ws : xW} {st r : List Value} {x : Int32} {off : Int} : xs X Q rt K (.ifCond .eq off, a, b) pc kc ks L (.int x :: r) n ws = ((x = I 0 → X kc ks a L r n ws) ∧ (¬ (x = I 0) → K kc ks L r n ws)) := rfl
theorem x_if_ne {X : xXt} {Q : xP} {rt : Option FieldType} {K : xKt} {a b pc kc ks n : Nat} {L : xL} {ws : xW} {st r : List Value} {x : Int32} {off : Int} : xs X Q rt K (.ifCond .ne off, a, b) pc kc ks L (.int x :: r) n ws = ((¬ x = I 0 → X kc ks a L r n ws) ∧ (¬ (¬ x = I 0) → K kc ks L r n ws)) := rfl
theorem x_if_lt {X : xXt} {Q : xP} {rt : Option FieldType} {K : xKt} {a b pc kc ks n : Nat} {L : xL} {ws : xW} {st r : List Value} {x : Int32} {off : Int} : xs X Q rt K (.ifCond .lt off, a, b) pc kc ks L (.int x :: r) n ws = ((x < I 0 → X kc ks a L r n ws) ∧ (¬ (x < I 0) → K kc ks L r n ws)) := rfl
theorem x_if_ge {X : xXt} {Q : xP} {rt : Option FieldType} {K : xKt} {a b pc kc ks n : Nat} {L : xL} {ws : xW} {st r : List Value} {x : Int32} {off : Int} : xs X Q rt K (.ifCond .ge off, a, b) pc kc ks L (.int x :: r) n ws = ((I 0 ≤ x → X kc ks a L r n ws) ∧ (¬ (I 0 ≤ x) → K kc ks L r n ws)) := rfl
theorem x_if_gt {X : xXt} {Q : xP} {rt : Option FieldType} {K : xKt} {a b pc kc ks n : Nat} {L : xL} {ws : xW} {st r : List Value} {x : Int32} {off : Int} : xs X Q rt K (.ifCond .gt off, a, b) pc kc ks L (.int x :: r) n ws = ((I 0 < x → X kc ks a L r n ws) ∧ (¬ (I 0 < x) → K kc ks L r n ws)) := rfl
theorem x_if_le {X : xXt} {Q : xP} {rt : Option FieldType} {K : xKt} {a b pc kc ks n : Nat} {L : xL} {ws : xW} {st r : List Value} {x : Int32} {off : Int} : xs X Q rt K (.ifCond .le off, a, b) pc kc ks L (.int x :: r) n ws = ((x ≤ I 0 → X kc ks a L r n ws) ∧ (¬ (x ≤ I 0) → K kc ks L r n ws)) := rfl
theorem x_ic_eq {X : xXt} {Q : xP} {rt : Option FieldType} {K : xKt} {a b pc kc ks n : Nat} {L : xL} {ws : xW} {st r : List Value} {x y : Int32} {off : Int} : xs X Q rt K (.if_icmp .eq off, a, b) pc kc ks L (.int y :: .int x :: r) n ws = ((x = y → X kc ks a L r n ws) ∧ (¬ (x = y) → K kc ks L r n ws)) := rfl
theorem x_ic_ne {X : xXt} {Q : xP} {rt : Option FieldType} {K : xKt} {a b pc kc ks n : Nat} {L : xL} {ws : xW} {st r : List Value} {x y : Int32} {off : Int} : xs X Q rt K (.if_icmp .ne off, a, b) pc kc ks L (.int y :: .int x :: r) n ws = ((¬ x = y → X kc ks a L r n ws) ∧ (¬ (¬ x = y) → K kc ks L r n ws)) := rfl
theorem x_ic_lt {X : xXt} {Q : xP} {rt : Option FieldType} {K : xKt} {a b pc kc ks n : Nat} {L : xL} {ws : xW} {st r : List Value} {x y : Int32} {off : Int} : xs X Q rt K (.if_icmp .lt off, a, b) pc kc ks L (.int y :: .int x :: r) n ws = ((x < y → X kc ks a L r n ws) ∧ (¬ (x < y) → K kc ks L r n ws)) := rfl
theorem x_ic_ge {X : xXt} {Q : xP} {rt : Option FieldType} {K : xKt} {a b pc kc ks n : Nat} {L : xL} {ws : xW} {st r : List Value} {x y : Int32} {off : Int} : xs X Q rt K (.if_icmp .ge off, a, b) pc kc ks L (.int y :: .int x :: r) n ws = ((y ≤ x → X kc ks a L r n ws) ∧ (¬ (y ≤ x) → K kc ks L r n ws)) := rfl
theorem x_ic_gt {X : xXt} {Q : xP} {rt : Option FieldType} {K : xKt} {a b pc kc ks n : Nat} {L : xL} {ws : xW} {st r : List Value} {x y : Int32} {off : Int} : xs X Q rt K (.if_icmp .gt off, a, b) pc kc ks L (.int y :: .int x :: r) n ws = ((y < x → X kc ks a L r n ws) ∧ (¬ (y < x) → K kc ks L r n ws)) := rfl
theorem x_ic_le {X : xXt} {Q : xP} {rt : Option FieldType} {K : xKt} {a b pc kc ks n : Nat} {L : xL} {ws : xW} {st r : List Value} {x y : Int32} {off : Int} : xs X Q rt K (.if_icmp .le off, a, b) pc kc ks L (.int y :: .int x :: r) n ws = ((x ≤ y → X kc ks a L r n ws) ∧ (¬ (x ≤ y) → K kc ks L r n ws)) := rfl
theorem x_goto {X : xXt} {Q : xP} {rt : Option FieldType} {K : xKt} {a b pc kc ks n : Nat} {L : xL} {ws : xW} {st r : List Value} {off : Int} : xs X Q rt K (.goto off, a, b) pc kc ks L st n ws = (X kc ks a L st n ws) := rfl
theorem x_ireturn {X : xXt} {Q : xP} {rt : Option FieldType} {K : xKt} {a b pc kc ks n : Nat} {L : xL} {ws : xW} {st r : List Value} {x : Int32} : xs X Q rt K (.ireturn, a, b) pc kc ks L [.int x] n ws = (xret rt x ∧ Q (some (.int x)) n ws) := rfl
theorem x_lreturn {X : xXt} {Q : xP} {rt : Option FieldType} {K : xKt} {a b pc kc ks n : Nat} {L : xL} {ws : xW} {st r : List Value} {x : Int64} : xs X Q rt K (.lreturn, a, b) pc kc ks L [.long x] n ws = (rt = some .long ∧ Q (some (.long x)) n ws) := rfl
theorem x_return {X : xXt} {Q : xP} {rt : Option FieldType} {K : xKt} {a b pc kc ks n : Nat} {L : xL} {ws : xW} {st r : List Value} : xs X Q rt K (.return_, a, b) pc kc ks L [] n ws = (rt = none ∧ Q none n ws) := rfl
theorem x_getfield {X : xXt} {Q : xP} {rt : Option FieldType} {K : xKt} {a b pc kc ks n : Nat} {L : xL} {ws : xW} {st r : List Value} {i p : Nat} : xs X Q rt K (.getfield i, a, b) pc kc ks L (.ref p :: r) n ws = (match ws p with | some (c, .inr (.inr (.inr vs))) => c = a ∧ (match vs[b]? with | some v => K kc ks L (v :: r) n ws | none => False) | _ => False) := rfl
theorem x_putfield {X : xXt} {Q : xP} {rt : Option FieldType} {K : xKt} {a b pc kc ks n : Nat} {L : xL} {ws : xW} {st r : List Value} {i p : Nat} {v : Value} : xs X Q rt K (.putfield i, a, b) pc kc ks L (v :: .ref p :: r) n ws = (match ws p with | some (c, .inr (.inr (.inr vs))) => c = a ∧ xfit a b v ∧ b < vs.length ∧ K kc ks L r n (xup ws p (c, .inr (.inr (.inr (vs.set b v))))) | _ => False) := rfl
theorem x_iaload {X : xXt} {Q : xP} {rt : Option FieldType} {K : xKt} {a b pc kc ks n : Nat} {L : xL} {ws : xW} {st r : List Value} {i : Int32} {p : Nat} : xs X Q rt K (.iaload, a, b) pc kc ks L (.int i :: .ref p :: r) n ws = (match ws p with | some (c, .inl l) => c = 0 ∧ vp_in i l.length ∧ K kc ks L (.int (l.getD i.toNatClampNeg (I 0)) :: r) n ws | _ => False) := rfl
theorem x_baload {X : xXt} {Q : xP} {rt : Option FieldType} {K : xKt} {a b pc kc ks n : Nat} {L : xL} {ws : xW} {st r : List Value} {i : Int32} {p : Nat} : xs X Q rt K (.baload, a, b) pc kc ks L (.int i :: .ref p :: r) n ws = (match ws p with | some (c, .inl l) => c = 1 ∧ vp_in i l.length ∧ K kc ks L (.int (l.getD i.toNatClampNeg (I 0)) :: r) n ws | _ => False) := rfl
theorem x_laload {X : xXt} {Q : xP} {rt : Option FieldType} {K : xKt} {a b pc kc ks n : Nat} {L : xL} {ws : xW} {st r : List Value} {i : Int32} {p : Nat} : xs X Q rt K (.laload, a, b) pc kc ks L (.int i :: .ref p :: r) n ws = (match ws p with | some (c, .inr (.inl l)) => c = 2 ∧ vp_in i l.length ∧ K kc ks L (.long (l.getD i.toNatClampNeg 0) :: r) n ws | _ => False) := rfl
theorem x_aaload {X : xXt} {Q : xP} {rt : Option FieldType} {K : xKt} {a b pc kc ks n : Nat} {L : xL} {ws : xW} {st r : List Value} {i : Int32} {p : Nat} : xs X Q rt K (.aaload, a, b) pc kc ks L (.int i :: .ref p :: r) n ws = (match ws p with | some (c, .inr (.inr (.inl l))) => (c = 3 ∨ c = 4 ∨ c = 5) ∧ vp_in i l.length ∧ K kc ks L (xrv (l.getD i.toNatClampNeg none) :: r) n ws | _ => False) := rfl
theorem x_iastore {X : xXt} {Q : xP} {rt : Option FieldType} {K : xKt} {a b pc kc ks n : Nat} {L : xL} {ws : xW} {st r : List Value} {x i : Int32} {p : Nat} : xs X Q rt K (.iastore, a, b) pc kc ks L (.int x :: .int i :: .ref p :: r) n ws = (match ws p with | some (c, .inl l) => c = 0 ∧ vp_in i l.length ∧ K kc ks L r n (xup ws p (c, .inl (l.set i.toNatClampNeg x))) | _ => False) := rfl
theorem x_bastore {X : xXt} {Q : xP} {rt : Option FieldType} {K : xKt} {a b pc kc ks n : Nat} {L : xL} {ws : xW} {st r : List Value} {x i : Int32} {p : Nat} : xs X Q rt K (.bastore, a, b) pc kc ks L (.int x :: .int i :: .ref p :: r) n ws = (match ws p with | some (c, .inl l) => c = 1 ∧ (x = I 0 ∨ x = I 1) ∧ vp_in i l.length ∧ K kc ks L r n (xup ws p (c, .inl (l.set i.toNatClampNeg x))) | _ => False) := rfl
theorem x_lastore {X : xXt} {Q : xP} {rt : Option FieldType} {K : xKt} {a b pc kc ks n : Nat} {L : xL} {ws : xW} {st r : List Value} {x : Int64} {i : Int32} {p : Nat} : xs X Q rt K (.lastore, a, b) pc kc ks L (.long x :: .int i :: .ref p :: r) n ws = (match ws p with | some (c, .inr (.inl l)) => c = 2 ∧ vp_in i l.length ∧ K kc ks L r n (xup ws p (c, .inr (.inl (l.set i.toNatClampNeg x)))) | _ => False) := rfl
theorem x_aastore {X : xXt} {Q : xP} {rt : Option FieldType} {K : xKt} {a b pc kc ks n : Nat} {L : xL} {ws : xW} {st r : List Value} {i : Int32} {v p : Nat} : xs X Q rt K (.aastore, a, b) pc kc ks L (.ref v :: .int i :: .ref p :: r) n ws = (match ws p with | some (c, .inr (.inr (.inl l))) => (c = 3 ∨ c = 4 ∨ c = 5) ∧ vp_in i l.length ∧ (∃ vs, ws v = some (xelt c, .inr (.inr (.inr vs)))) ∧ K kc ks L r n (xup ws p (c, .inr (.inr (.inl (l.set i.toNatClampNeg (some v)))))) | _ => False) := rfl
theorem x_arraylength {X : xXt} {Q : xP} {rt : Option FieldType} {K : xKt} {a b pc kc ks n : Nat} {L : xL} {ws : xW} {st r : List Value} {p : Nat} : xs X Q rt K (.arraylength, a, b) pc kc ks L (.ref p :: r) n ws = (match ws p with | some (c, .inl l) => c = 0 ∧ K kc ks L (.int (I l.length) :: r) n ws | _ => False) := rfl
theorem x_newarray {X : xXt} {Q : xP} {rt : Option FieldType} {K : xKt} {a b pc kc ks n : Nat} {L : xL} {ws : xW} {st r : List Value} {t : ArrayType} {k : Int32} : xs X Q rt K (.newarray t, a, b) pc kc ks L (.int k :: r) n ws = (match xnk t with | some j => ¬ k < 0 ∧ k.toNatClampNeg ≤ 1000 ∧ 1 ≤ kc ∧ k.toNatClampNeg ≤ ks ∧ K (kc - 1) (ks - k.toNatClampNeg) L (.ref n :: r) (n + 1) (xup ws n (j, if j = 2 then .inr (.inl (List.replicate k.toNatClampNeg 0)) else .inl (List.replicate k.toNatClampNeg (I 0)))) | none => False) := rfl
theorem x_anewarray {X : xXt} {Q : xP} {rt : Option FieldType} {K : xKt} {a b pc kc ks n : Nat} {L : xL} {ws : xW} {st r : List Value} {i : Nat} {k : Int32} : xs X Q rt K (.anewarray i, a, b) pc kc ks L (.int k :: r) n ws = (¬ k < 0 ∧ k.toNatClampNeg ≤ 1000 ∧ 1 ≤ kc ∧ k.toNatClampNeg ≤ ks ∧ K (kc - 1) (ks - k.toNatClampNeg) L (.ref n :: r) (n + 1) (xup ws n (a, .inr (.inr (.inl (List.replicate k.toNatClampNeg none)))))) := rfl
theorem x_new {X : xXt} {Q : xP} {rt : Option FieldType} {K : xKt} {a b pc kc ks n : Nat} {L : xL} {ws : xW} {st r : List Value} {i : Nat} : xs X Q rt K (.new i, a, b) pc kc ks L st n ws = (1 ≤ kc ∧ (xdf a).length ≤ ks ∧ K (kc - 1) (ks - (xdf a).length) L (.ref n :: st) (n + 1) (xup ws n (a, .inr (.inr (.inr (xdf a)))))) := rfl
theorem xb_nil {X : xXt} {Q : xP} {rt : Option FieldType} {pc kc ks n : Nat} {L : xL} {st : List Value} {ws : xW} : xb X Q rt [] pc kc ks L st n ws = X kc ks pc L st n ws := rfl
theorem xb_cons {X : xXt} {Q : xP} {rt : Option FieldType} {i : Instr} {a b pc kc ks n : Nat} {L : xL} {st : List Value} {ws : xW} {r : List xO} : xb X Q rt ((i, a, b) :: r) pc kc ks L st n ws = xs X Q rt (xb X Q rt r (pc + xlen i)) (i, a, b) pc kc ks L st n ws := rfl
theorem xl_cons {j i : Nat} {v : Value} {L : xL} : xl ((j, v) :: L) i = if j = i then some v else xl L i := by
  unfold xl; by_cases h : j = i <;> simp [h]
def xdl (L : xL) (i : Nat) : xL := match L with
  | [] => []
  | (j, v) :: L => if j = i then xdl L i else if j + 1 = i ∧ v.category = 2 then xdl L i else (j, v) :: xdl L i
theorem xdl_eq (i : Nat) : ∀ L : xL, xdl L i = L.filter (fun q => !(q.1 == i) && !(q.1 + 1 == i && q.2.category == 2))
  | [] => rfl
  | (j, v) :: L => by
    unfold xdl
    rw [xdl_eq i L]
    by_cases h1 : j = i
    · simp [h1]
    · by_cases h2 : j + 1 = i <;> by_cases h3 : v.category = 2 <;> simp [h1, h2, h3]
theorem xst_def (L : xL) (i : Nat) (v : Value) : xst L i v = (i, v) :: xdl L i := by rw [xdl_eq]; rfl
theorem xdl_nil (i : Nat) : xdl [] i = [] := rfl
theorem xdl_int (j i : Nat) (x : Int32) (L : xL) : xdl ((j, .int x) :: L) i = if j = i then xdl L i else (j, .int x) :: xdl L i := by
  conv => lhs; unfold xdl
  by_cases h : j = i <;> simp [h, Value.category]
theorem xdl_ref (j i : Nat) (x : Nat) (L : xL) : xdl ((j, .ref x) :: L) i = if j = i then xdl L i else (j, .ref x) :: xdl L i := by
  conv => lhs; unfold xdl
  by_cases h : j = i <;> simp [h, Value.category]
theorem xdl_long (j i : Nat) (x : Int64) (L : xL) : xdl ((j, .long x) :: L) i = if j = i then xdl L i else if j + 1 = i then xdl L i else (j, .long x) :: xdl L i := by
  conv => lhs; unfold xdl
  by_cases h : j = i <;> by_cases h2 : j + 1 = i <;> simp [h, h2, Value.category]
theorem xst2_def (L : xL) (i : Nat) (v : Value) : xst2 L i v = (i, v) :: xdl (xdl L i) (i + 1) := by
  have : xdl (xdl L i) (i + 1) = L.filter (fun q => !(q.1 == i) && (!(q.1 == i + 1) && !(q.1 + 1 == i && q.2.category == 2))) := by
    rw [xdl_eq, xdl_eq, List.filter_filter]
    apply List.filter_congr
    intro q _
    by_cases h1 : q.1 = i
    · simp [h1]
    · have h2 : ¬ (q.1 + 1 = i + 1) := by omega
      have h4 : (q.1 == i) = false := by simpa using h1
      simp [h4]
  rw [this]; rfl
theorem xN_0 {T : List (Nat × List xO)} {B : xXt} {Q : xP} {rt : Option FieldType} {kc ks pc n : Nat} {L : xL} {st : List Value} {ws : xW} : xN T B Q rt 0 kc ks pc L st n ws = B kc ks pc L st n ws := rfl
theorem xN_s {T : List (Nat × List xO)} {B : xXt} {Q : xP} {rt : Option FieldType} {k kc ks pc n : Nat} {L : xL} {st : List Value} {ws : xW} : xN T B Q rt (k + 1) kc ks pc L st n ws = (match xlook T pc with | some ops => xb (xN T B Q rt k) Q rt ops pc kc ks L st n ws | none => B kc ks pc L st n ws) := rfl
theorem xlook_c {a pc : Nat} {o : List xO} {T : List (Nat × List xO)} : xlook ((a, o) :: T) pc = if a = pc then some o else xlook T pc := rfl
theorem xlook_n {pc : Nat} : xlook [] pc = none := rfl
theorem xrv_some (p : Nat) : xrv (some p) = .ref p := rfl
theorem xfit_int (a b : Nat) (x : Int32) : xfit a b (.int x) = (xtc a b = 0) := rfl
theorem xfit_long (a b : Nat) (x : Int64) : xfit a b (.long x) = (xtc a b = 1) := rfl
theorem xfit_ref (a b : Nat) (x : Nat) : xfit a b (.ref x) = (xtc a b = 2) := rfl
theorem cat_int (x : Int32) : (Value.int x).category = 1 := rfl
theorem cat_ref (x : Nat) : (Value.ref x).category = 1 := rfl
theorem cat_long (x : Int64) : (Value.long x).category = 2 := rfl
theorem xret_int (x : Int32) : xret (some .int) x = True := rfl
theorem xret_bool (x : Int32) : xret (some .boolean) x = (x = I 0 ∨ x = I 1) := rfl
theorem x_iload_0 {X : xXt} {Q : xP} {rt : Option FieldType} {K : xKt} {a b pc kc ks n : Nat} {L : xL} {ws : xW} {st r : List Value} : xs X Q rt K (.iload_n 0, a, b) pc kc ks L st n ws = (match xl L 0 with | some (.int x) => K kc ks L (.int x :: st) n ws | _ => False) := rfl
theorem x_iload_1 {X : xXt} {Q : xP} {rt : Option FieldType} {K : xKt} {a b pc kc ks n : Nat} {L : xL} {ws : xW} {st r : List Value} : xs X Q rt K (.iload_n 1, a, b) pc kc ks L st n ws = (match xl L 1 with | some (.int x) => K kc ks L (.int x :: st) n ws | _ => False) := rfl
theorem x_iload_2 {X : xXt} {Q : xP} {rt : Option FieldType} {K : xKt} {a b pc kc ks n : Nat} {L : xL} {ws : xW} {st r : List Value} : xs X Q rt K (.iload_n 2, a, b) pc kc ks L st n ws = (match xl L 2 with | some (.int x) => K kc ks L (.int x :: st) n ws | _ => False) := rfl
theorem x_iload_3 {X : xXt} {Q : xP} {rt : Option FieldType} {K : xKt} {a b pc kc ks n : Nat} {L : xL} {ws : xW} {st r : List Value} : xs X Q rt K (.iload_n 3, a, b) pc kc ks L st n ws = (match xl L 3 with | some (.int x) => K kc ks L (.int x :: st) n ws | _ => False) := rfl
theorem x_lload_0 {X : xXt} {Q : xP} {rt : Option FieldType} {K : xKt} {a b pc kc ks n : Nat} {L : xL} {ws : xW} {st r : List Value} : xs X Q rt K (.lload_n 0, a, b) pc kc ks L st n ws = (match xl L 0 with | some (.long x) => K kc ks L (.long x :: st) n ws | _ => False) := rfl
theorem x_lload_1 {X : xXt} {Q : xP} {rt : Option FieldType} {K : xKt} {a b pc kc ks n : Nat} {L : xL} {ws : xW} {st r : List Value} : xs X Q rt K (.lload_n 1, a, b) pc kc ks L st n ws = (match xl L 1 with | some (.long x) => K kc ks L (.long x :: st) n ws | _ => False) := rfl
theorem x_lload_2 {X : xXt} {Q : xP} {rt : Option FieldType} {K : xKt} {a b pc kc ks n : Nat} {L : xL} {ws : xW} {st r : List Value} : xs X Q rt K (.lload_n 2, a, b) pc kc ks L st n ws = (match xl L 2 with | some (.long x) => K kc ks L (.long x :: st) n ws | _ => False) := rfl
theorem x_lload_3 {X : xXt} {Q : xP} {rt : Option FieldType} {K : xKt} {a b pc kc ks n : Nat} {L : xL} {ws : xW} {st r : List Value} : xs X Q rt K (.lload_n 3, a, b) pc kc ks L st n ws = (match xl L 3 with | some (.long x) => K kc ks L (.long x :: st) n ws | _ => False) := rfl
theorem x_aload_0 {X : xXt} {Q : xP} {rt : Option FieldType} {K : xKt} {a b pc kc ks n : Nat} {L : xL} {ws : xW} {st r : List Value} : xs X Q rt K (.aload_n 0, a, b) pc kc ks L st n ws = (match xl L 0 with | some (.ref x) => K kc ks L (.ref x :: st) n ws | _ => False) := rfl
theorem x_aload_1 {X : xXt} {Q : xP} {rt : Option FieldType} {K : xKt} {a b pc kc ks n : Nat} {L : xL} {ws : xW} {st r : List Value} : xs X Q rt K (.aload_n 1, a, b) pc kc ks L st n ws = (match xl L 1 with | some (.ref x) => K kc ks L (.ref x :: st) n ws | _ => False) := rfl
theorem x_aload_2 {X : xXt} {Q : xP} {rt : Option FieldType} {K : xKt} {a b pc kc ks n : Nat} {L : xL} {ws : xW} {st r : List Value} : xs X Q rt K (.aload_n 2, a, b) pc kc ks L st n ws = (match xl L 2 with | some (.ref x) => K kc ks L (.ref x :: st) n ws | _ => False) := rfl
theorem x_aload_3 {X : xXt} {Q : xP} {rt : Option FieldType} {K : xKt} {a b pc kc ks n : Nat} {L : xL} {ws : xW} {st r : List Value} : xs X Q rt K (.aload_n 3, a, b) pc kc ks L st n ws = (match xl L 3 with | some (.ref x) => K kc ks L (.ref x :: st) n ws | _ => False) := rfl
theorem x_istore_0 {X : xXt} {Q : xP} {rt : Option FieldType} {K : xKt} {a b pc kc ks n : Nat} {L : xL} {ws : xW} {st r : List Value} {x : Int32} : xs X Q rt K (.istore_n 0, a, b) pc kc ks L (.int x :: r) n ws = (K kc ks (xst L 0 (.int x)) r n ws) := rfl
theorem x_istore_1 {X : xXt} {Q : xP} {rt : Option FieldType} {K : xKt} {a b pc kc ks n : Nat} {L : xL} {ws : xW} {st r : List Value} {x : Int32} : xs X Q rt K (.istore_n 1, a, b) pc kc ks L (.int x :: r) n ws = (K kc ks (xst L 1 (.int x)) r n ws) := rfl
theorem x_istore_2 {X : xXt} {Q : xP} {rt : Option FieldType} {K : xKt} {a b pc kc ks n : Nat} {L : xL} {ws : xW} {st r : List Value} {x : Int32} : xs X Q rt K (.istore_n 2, a, b) pc kc ks L (.int x :: r) n ws = (K kc ks (xst L 2 (.int x)) r n ws) := rfl
theorem x_istore_3 {X : xXt} {Q : xP} {rt : Option FieldType} {K : xKt} {a b pc kc ks n : Nat} {L : xL} {ws : xW} {st r : List Value} {x : Int32} : xs X Q rt K (.istore_n 3, a, b) pc kc ks L (.int x :: r) n ws = (K kc ks (xst L 3 (.int x)) r n ws) := rfl
theorem x_lstore_0 {X : xXt} {Q : xP} {rt : Option FieldType} {K : xKt} {a b pc kc ks n : Nat} {L : xL} {ws : xW} {st r : List Value} {x : Int64} : xs X Q rt K (.lstore_n 0, a, b) pc kc ks L (.long x :: r) n ws = (K kc ks (xst2 L 0 (.long x)) r n ws) := rfl
theorem x_lstore_1 {X : xXt} {Q : xP} {rt : Option FieldType} {K : xKt} {a b pc kc ks n : Nat} {L : xL} {ws : xW} {st r : List Value} {x : Int64} : xs X Q rt K (.lstore_n 1, a, b) pc kc ks L (.long x :: r) n ws = (K kc ks (xst2 L 1 (.long x)) r n ws) := rfl
theorem x_lstore_2 {X : xXt} {Q : xP} {rt : Option FieldType} {K : xKt} {a b pc kc ks n : Nat} {L : xL} {ws : xW} {st r : List Value} {x : Int64} : xs X Q rt K (.lstore_n 2, a, b) pc kc ks L (.long x :: r) n ws = (K kc ks (xst2 L 2 (.long x)) r n ws) := rfl
theorem x_lstore_3 {X : xXt} {Q : xP} {rt : Option FieldType} {K : xKt} {a b pc kc ks n : Nat} {L : xL} {ws : xW} {st r : List Value} {x : Int64} : xs X Q rt K (.lstore_n 3, a, b) pc kc ks L (.long x :: r) n ws = (K kc ks (xst2 L 3 (.long x)) r n ws) := rfl
theorem x_astore_0 {X : xXt} {Q : xP} {rt : Option FieldType} {K : xKt} {a b pc kc ks n : Nat} {L : xL} {ws : xW} {st r : List Value} {x : Nat} : xs X Q rt K (.astore_n 0, a, b) pc kc ks L (.ref x :: r) n ws = (K kc ks (xst L 0 (.ref x)) r n ws) := rfl
theorem x_astore_1 {X : xXt} {Q : xP} {rt : Option FieldType} {K : xKt} {a b pc kc ks n : Nat} {L : xL} {ws : xW} {st r : List Value} {x : Nat} : xs X Q rt K (.astore_n 1, a, b) pc kc ks L (.ref x :: r) n ws = (K kc ks (xst L 1 (.ref x)) r n ws) := rfl
theorem x_astore_2 {X : xXt} {Q : xP} {rt : Option FieldType} {K : xKt} {a b pc kc ks n : Nat} {L : xL} {ws : xW} {st r : List Value} {x : Nat} : xs X Q rt K (.astore_n 2, a, b) pc kc ks L (.ref x :: r) n ws = (K kc ks (xst L 2 (.ref x)) r n ws) := rfl
theorem x_astore_3 {X : xXt} {Q : xP} {rt : Option FieldType} {K : xKt} {a b pc kc ks n : Nat} {L : xL} {ws : xW} {st r : List Value} {x : Nat} : xs X Q rt K (.astore_n 3, a, b) pc kc ks L (.ref x :: r) n ws = (K kc ks (xst L 3 (.ref x)) r n ws) := rfl
theorem q_bipush_m3 : (Int8.ofInt (-3)).toInt32 = I (-3) := by decide
theorem q_bipush_m2 : (Int8.ofInt (-2)).toInt32 = I (-2) := by decide
theorem q_bipush_6 : (Int8.ofInt (6)).toInt32 = I (6) := by decide
theorem q_bipush_7 : (Int8.ofInt (7)).toInt32 = I (7) := by decide
theorem q_bipush_9 : (Int8.ofInt (9)).toInt32 = I (9) := by decide
theorem q_bipush_10 : (Int8.ofInt (10)).toInt32 = I (10) := by decide
theorem q_bipush_24 : (Int8.ofInt (24)).toInt32 = I (24) := by decide
theorem q_bipush_30 : (Int8.ofInt (30)).toInt32 = I (30) := by decide
theorem q_bipush_48 : (Int8.ofInt (48)).toInt32 = I (48) := by decide
theorem q_bipush_100 : (Int8.ofInt (100)).toInt32 = I (100) := by decide
theorem q_sipush_300 : (Int16.ofInt (300)).toInt32 = I (300) := by decide
theorem q_sipush_1000 : (Int16.ofInt (1000)).toInt32 = I (1000) := by decide
theorem q_sipush_24001 : (Int16.ofInt (24001)).toInt32 = I (24001) := by decide
theorem q_l0 : Int64.ofNat ((0 : Fin 2) : Nat) = 0 := by decide
theorem q_l1 : Int64.ofNat ((1 : Fin 2) : Nat) = 1 := by decide
theorem xtc_0_0 : xtc 0 0 = 2 := rfl
theorem xtc_0_1 : xtc 0 1 = 2 := rfl
theorem xtc_0_2 : xtc 0 2 = 2 := rfl
theorem xtc_0_3 : xtc 0 3 = 2 := rfl
theorem xtc_0_4 : xtc 0 4 = 2 := rfl
theorem xtc_0_5 : xtc 0 5 = 0 := rfl
theorem xtc_1_0 : xtc 1 0 = 2 := rfl
theorem xtc_1_1 : xtc 1 1 = 2 := rfl
theorem xtc_1_2 : xtc 1 2 = 2 := rfl
theorem xtc_2_0 : xtc 2 0 = 1 := rfl
theorem xtc_2_1 : xtc 2 1 = 1 := rfl
theorem xtc_3_0 : xtc 3 0 = 2 := rfl
theorem xtc_4_0 : xtc 4 0 = 0 := rfl
theorem xtc_4_1 : xtc 4 1 = 0 := rfl
theorem xtc_4_2 : xtc 4 2 = 0 := rfl
theorem xtc_4_3 : xtc 4 3 = 0 := rfl
theorem xtc_4_4 : xtc 4 4 = 0 := rfl
theorem xtc_4_5 : xtc 4 5 = 2 := rfl
theorem xtc_4_6 : xtc 4 6 = 2 := rfl
theorem xtc_4_7 : xtc 4 7 = 2 := rfl
theorem xtc_4_8 : xtc 4 8 = 2 := rfl
theorem xtc_4_9 : xtc 4 9 = 2 := rfl
theorem xtc_4_10 : xtc 4 10 = 2 := rfl
theorem xtc_4_11 : xtc 4 11 = 2 := rfl
theorem xtc_4_12 : xtc 4 12 = 2 := rfl
theorem xtc_5_0 : xtc 5 0 = 2 := rfl
theorem xtc_5_1 : xtc 5 1 = 0 := rfl
theorem xtc_5_2 : xtc 5 2 = 0 := rfl
theorem xtc_5_3 : xtc 5 3 = 2 := rfl
theorem xtc_5_4 : xtc 5 4 = 2 := rfl
theorem xtc_5_5 : xtc 5 5 = 2 := rfl
theorem xtc_5_6 : xtc 5 6 = 2 := rfl
theorem xtc_6_0 : xtc 6 0 = 0 := rfl
theorem xtc_6_1 : xtc 6 1 = 0 := rfl
theorem xtc_6_2 : xtc 6 2 = 2 := rfl
theorem xtc_7_0 : xtc 7 0 = 0 := rfl
theorem xtc_7_1 : xtc 7 1 = 2 := rfl
theorem xtc_8_0 : xtc 8 0 = 2 := rfl
theorem xtc_8_1 : xtc 8 1 = 2 := rfl
theorem xtc_8_2 : xtc 8 2 = 2 := rfl
theorem xtc_8_3 : xtc 8 3 = 0 := rfl
theorem xtc_9_0 : xtc 9 0 = 2 := rfl
theorem xtc_9_1 : xtc 9 1 = 2 := rfl
theorem xtc_9_2 : xtc 9 2 = 2 := rfl
theorem xtc_9_3 : xtc 9 3 = 2 := rfl
theorem xtc_9_4 : xtc 9 4 = 2 := rfl
theorem xtc_9_5 : xtc 9 5 = 2 := rfl
theorem xtc_9_6 : xtc 9 6 = 2 := rfl
theorem xtc_9_7 : xtc 9 7 = 2 := rfl
theorem xtc_9_8 : xtc 9 8 = 2 := rfl
theorem xtc_9_9 : xtc 9 9 = 0 := rfl
theorem xtc_10_0 : xtc 10 0 = 0 := rfl
theorem xtc_10_1 : xtc 10 1 = 0 := rfl
theorem xtc_10_2 : xtc 10 2 = 0 := rfl
theorem xtc_10_3 : xtc 10 3 = 2 := rfl
theorem xtc_10_4 : xtc 10 4 = 2 := rfl
theorem xtc_10_5 : xtc 10 5 = 2 := rfl
theorem xtc_10_6 : xtc 10 6 = 2 := rfl
theorem xtc_10_7 : xtc 10 7 = 0 := rfl
theorem xtc_10_8 : xtc 10 8 = 2 := rfl
theorem xtc_10_9 : xtc 10 9 = 2 := rfl
theorem xtc_10_10 : xtc 10 10 = 2 := rfl
theorem xtc_10_11 : xtc 10 11 = 2 := rfl
theorem xtc_10_12 : xtc 10 12 = 2 := rfl
theorem xtc_10_13 : xtc 10 13 = 2 := rfl
theorem xtc_10_14 : xtc 10 14 = 2 := rfl
theorem xtc_10_15 : xtc 10 15 = 2 := rfl
theorem xtc_10_16 : xtc 10 16 = 2 := rfl
theorem xtc_10_17 : xtc 10 17 = 2 := rfl
theorem xtc_10_18 : xtc 10 18 = 2 := rfl
theorem xtc_10_19 : xtc 10 19 = 2 := rfl
theorem xtc_10_20 : xtc 10 20 = 0 := rfl
theorem xtc_10_21 : xtc 10 21 = 0 := rfl
theorem xtc_10_22 : xtc 10 22 = 2 := rfl
theorem xtc_10_23 : xtc 10 23 = 2 := rfl
theorem xtc_10_24 : xtc 10 24 = 2 := rfl
theorem xtc_10_25 : xtc 10 25 = 2 := rfl
end
section
/-! ints as integers; arrays as functions -/
theorem I_toInt {x : Int} (h1 : -2147483648 ≤ x) (h2 : x < 2147483648) : (I x).toInt = x := by
  unfold I
  rw [Int32.toInt_ofInt]
  rw [show Int32.size = 4294967296 from rfl]
  rw [Int.bmod_eq_of_le] <;> omega
theorem I_of (v : Int32) : v = I v.toInt := by unfold I; rw [Int32.ofInt_toInt]
theorem I_bd (v : Int32) : -2147483648 ≤ v.toInt ∧ v.toInt < 2147483648 := ⟨Int32.le_toInt v, Int32.toInt_lt v⟩
theorem I_add (a b : Int) : I a + I b = I (a + b) := by unfold I; rw [Int32.ofInt_add]
theorem I_sub (a b : Int) : I a - I b = I (a - b) := by unfold I; rw [Int32.ofInt_sub]
theorem I_mul (a b : Int) : I a * I b = I (a * b) := by unfold I; rw [Int32.ofInt_mul]
theorem I_neg (a : Int) : - I a = I (-a) := by unfold I; rw [Int32.ofInt_neg]
theorem I_lt {a b : Int} (h1 : -2147483648 ≤ a) (h2 : a < 2147483648) (h3 : -2147483648 ≤ b) (h4 : b < 2147483648) : (I a < I b) = (a < b) := by
  rw [Int32.lt_iff_toInt_lt, I_toInt h1 h2, I_toInt h3 h4]
theorem I_le {a b : Int} (h1 : -2147483648 ≤ a) (h2 : a < 2147483648) (h3 : -2147483648 ≤ b) (h4 : b < 2147483648) : (I a ≤ I b) = (a ≤ b) := by
  rw [Int32.le_iff_toInt_le, I_toInt h1 h2, I_toInt h3 h4]
theorem I_eq {a b : Int} (h1 : -2147483648 ≤ a) (h2 : a < 2147483648) (h3 : -2147483648 ≤ b) (h4 : b < 2147483648) : (I a = I b) = (a = b) := by
  apply propext
  constructor
  · intro h
    have := congrArg Int32.toInt h
    rwa [I_toInt h1 h2, I_toInt h3 h4] at this
  · intro h; rw [h]
theorem I_in {j : Int} {n : Nat} (h1 : -2147483648 ≤ j) (h2 : j < 2147483648) : vp_in (I j) n = (0 ≤ j ∧ j < n) := by
  apply propext
  rw [vp_in_iff, I_toInt h1 h2]
theorem I_cl {j : Int} (h1 : 0 ≤ j) (h2 : j < 2147483648) : (I j).toNatClampNeg = j.toNat := by
  have : (I j).toInt = j := I_toInt (by omega) h2
  rw [← Int32.toNat_toInt, this]
theorem I_nI (n : Nat) : nI n = I n := by unfold nI I; rw [Int32.ofInt_eq_ofNat]
/-- an int array of n places that holds f -/
def ra (n : Nat) (f : Nat → Int) : List Int32 := (List.range n).map fun i => I (f i)
theorem ra_len (n : Nat) (f : Nat → Int) : (ra n f).length = n := by simp [ra]
theorem ra_get {n : Nat} {f : Nat → Int} {j : Int} (h1 : 0 ≤ j) (h2 : j < n) (h3 : j < 2147483648) (x : Int32) : (ra n f).getD (I j).toNatClampNeg x = I (f j.toNat) := by
  rw [I_cl h1 h3]
  have : j.toNat < n := by omega
  simp [ra, List.getD_eq_getElem?_getD, this]
def fu (f : Nat → Int) (k : Nat) (v : Int) : Nat → Int := fun j => if j = k then v else f j
theorem fu_s (f : Nat → Int) (k : Nat) (v : Int) : fu f k v k = v := by simp [fu]
theorem fu_n (f : Nat → Int) {k j : Nat} (v : Int) (h : j ≠ k) : fu f k v j = f j := by simp [fu, h]
theorem ra_set {n : Nat} {f : Nat → Int} {j : Int} (h1 : 0 ≤ j) (h3 : j < 2147483648) (v : Int) : (ra n f).set (I j).toNatClampNeg (I v) = ra n (fu f j.toNat v) := by
  rw [I_cl h1 h3]
  apply List.ext_getElem?
  intro i
  by_cases hi : i < n
  · by_cases e : i = j.toNat
    · subst e; simp [ra, hi, fu]
    · rw [List.getElem?_set_ne (Ne.symm e)]; simp [ra, hi, fu, e]
  · simp [ra, hi, List.getElem?_set]
theorem ra_ext {n : Nat} {f g : Nat → Int} (h : ∀ i, i < n → f i = g i) : ra n f = ra n g := by
  unfold ra
  apply List.map_congr_left
  intro i hi
  rw [h i (List.mem_range.mp hi)]
theorem I_b0 (P : Prop) [Decidable P] : (I (if P then 1 else 0) = I 0) = ¬ P := by
  by_cases h : P <;> simp [h] <;> decide
theorem I_b01 (P : Prop) [Decidable P] : (I (if P then 1 else 0) = I 0 ∨ I (if P then 1 else 0) = I 1) = True := by
  by_cases h : P <;> simp [h]
end
section
/-- a walk's point with more, or other, order of locals -/
theorem xX.loc {l : Launch} {t : xT} {d mc ms : Nat} {Q : xP} {kc ks pc n : Nat} {L : xL} (L' : xL) {st : List Value} {ws : xW} (h : ∀ q ∈ L', q ∈ L) (k : xX l t d mc ms Q kc ks pc L' st n ws) : xX l t d mc ms Q kc ks pc L st n ws := by
  intro G tc z p e s m args below meth c H locs cells slots ls hC hR hS hl hk1 hk2
  refine k G tc z p e s m args below meth c H locs cells slots ls hC hR hS ⟨hl.1, hl.2.1, fun q hq => ?_⟩ hk1 hk2
  obtain ⟨q0, h0, rfl⟩ := List.mem_map.mp hq
  exact hl.2.2 _ (List.mem_map.mpr ⟨q0, h q0 h0, rfl⟩)
/-- the sum of the first k -/
def sm (f : Nat → Int) : Nat → Int
  | 0 => 0
  | k + 1 => sm f k + f k
theorem sm_bd {f : Nat → Int} {B : Int} : ∀ k : Nat, (∀ i, i < k → 0 ≤ f i ∧ f i ≤ B) → 0 ≤ sm f k ∧ sm f k ≤ k * B
  | 0, _ => ⟨Int.le_refl 0, by simp [sm]⟩
  | k + 1, h => by
    obtain ⟨h1, h2⟩ := sm_bd k (fun i hi => h i (by omega))
    obtain ⟨h3, h4⟩ := h k (by omega)
    refine ⟨by unfold sm; omega, ?_⟩
    have e : ((k + 1 : Nat) : Int) * B = k * B + B := by rw [Int.natCast_add, Int.add_mul]; simp
    unfold sm
    omega
/-- the block at a loop's head, then others -/
theorem xL_ok {l : Launch} {t : xT} {d mc ms : Nat} {Q : xP} (hcls : t.2.1.cls = xnm t.1) {ops : List xO} {pc kc ks n : Nat} {L : xL} {st : List Value} {ws : xW} (hc : xchk t.1 t.2.2.2.1 (t.2.1.name == "<init>") t.2.2.1 ops pc = true) {T : List (Nat × List xO)} (hT : xTok t T = true) (k : Nat)
    (h : xb (xN T (xX l t d mc ms Q) Q t.2.2.2.2 k) Q t.2.2.2.2 ops pc kc ks L st n ws) : xX l t d mc ms Q kc ks pc L st n ws :=
  xgoX hcls _ (fun kc ks pc L st n ws q => xN_ok hcls hT k kc ks pc L st n ws q) ops pc kc ks L st n ws hc h
theorem b_eq0 (P : Prop) [Decidable P] : ((if P then (1 : Int) else 0) = 0) = ¬ P := by by_cases h : P <;> simp [h]
theorem b_eq1 (P : Prop) [Decidable P] : ((if P then (1 : Int) else 0) = 1) = P := by by_cases h : P <;> simp [h]
/-- behind a call that changes nothing -/
theorem pureQ {P : Option Value → Nat → xW → Prop} {r0 : Option Value} {n : Nat} {ws : xW} (h : P r0 n ws) : ∀ r n' ws', (r = r0 ∧ n' = n ∧ ws' = ws) → P r n' ws' := by
  rintro r n' ws' ⟨rfl, rfl, rfl⟩
  exact h
end
section
theorem w_isWithin (l : Launch) (d n : Nat) (ws : xW) {v lo hi : Int} (h1 : -2147483648 ≤ v) (h2 : v < 2147483648) (h3 : -2147483648 ≤ lo) (h4 : lo < 2147483648) (h5 : -2147483648 ≤ hi) (h6 : hi < 2147483648) : xM l tX9_isWithin d 0 0 [.int (I v), .int (I lo), .int (I hi)] n ws (fun r n' ws' => r = some (.int (I (if lo ≤ v ∧ v ≤ hi then 1 else 0))) ∧ n' = n ∧ ws' = ws) := by
  refine xM.of (by decide) (Nat.le_of_ble_eq_true rfl) ?_
  simp only [lv_args, cat_int, cat_ref, cat_long, reduceIte, Nat.reduceEqDiff, Nat.reduceAdd, Nat.one_ne_zero, Nat.reduceLeDiff]
  refine xN_ok (t := tX9_isWithin) rfl (T := AX9_isWithin) aX9_isWithin 5 _ _ _ _ _ _ _ ?_
  simp only [AX9_isWithin, oX9_isWithin_0, oX9_isWithin_14, oX9_isWithin_15, rX9_isWithin, x_iconst, x_bipush, x_sipush, x_lconst, x_iload, x_lload, x_aload, x_istore, x_lstore, x_astore, x_iinc, x_iadd, x_isub, x_imul, x_iand, x_ior, x_ixor, x_ishl, x_ishr, x_ineg, x_ladd, x_lsub, x_lmul, x_ldiv, x_lrem, x_lcmp, x_i2l, x_l2i, x_dup, x_dup_x1, x_dup2, x_if_eq, x_if_ne, x_if_lt, x_if_ge, x_if_gt, x_if_le, x_ic_eq, x_ic_ne, x_ic_lt, x_ic_ge, x_ic_gt, x_ic_le, x_goto, x_ireturn, x_lreturn, x_return, x_getfield, x_putfield, x_iaload, x_baload, x_laload, x_aaload, x_iastore, x_bastore, x_lastore, x_aastore, x_arraylength, x_newarray, x_anewarray, x_new, x_iload_0, x_iload_1, x_iload_2, x_iload_3, x_lload_0, x_lload_1, x_lload_2, x_lload_3, x_aload_0, x_aload_1, x_aload_2, x_aload_3, x_istore_0, x_istore_1, x_istore_2, x_istore_3, x_lstore_0, x_lstore_1, x_lstore_2, x_lstore_3, x_astore_0, x_astore_1, x_astore_2, x_astore_3, q_bipush_m3, q_bipush_m2, q_bipush_6, q_bipush_7, q_bipush_9, q_bipush_10, q_bipush_24, q_bipush_30, q_bipush_48, q_bipush_100, q_sipush_300, q_sipush_1000, q_sipush_24001, q_l0, q_l1, xtc_0_0, xtc_0_1, xtc_0_2, xtc_0_3, xtc_0_4, xtc_0_5, xtc_1_0, xtc_1_1, xtc_1_2, xtc_2_0, xtc_2_1, xtc_3_0, xtc_4_0, xtc_4_1, xtc_4_2, xtc_4_3, xtc_4_4, xtc_4_5, xtc_4_6, xtc_4_7, xtc_4_8, xtc_4_9, xtc_4_10, xtc_4_11, xtc_4_12, xtc_5_0, xtc_5_1, xtc_5_2, xtc_5_3, xtc_5_4, xtc_5_5, xtc_5_6, xtc_6_0, xtc_6_1, xtc_6_2, xtc_7_0, xtc_7_1, xtc_8_0, xtc_8_1, xtc_8_2, xtc_8_3, xtc_9_0, xtc_9_1, xtc_9_2, xtc_9_3, xtc_9_4, xtc_9_5, xtc_9_6, xtc_9_7, xtc_9_8, xtc_9_9, xtc_10_0, xtc_10_1, xtc_10_2, xtc_10_3, xtc_10_4, xtc_10_5, xtc_10_6, xtc_10_7, xtc_10_8, xtc_10_9, xtc_10_10, xtc_10_11, xtc_10_12, xtc_10_13, xtc_10_14, xtc_10_15, xtc_10_16, xtc_10_17, xtc_10_18, xtc_10_19, xtc_10_20, xtc_10_21, xtc_10_22, xtc_10_23, xtc_10_24, xtc_10_25, eq_self, reduceIte, Nat.reduceEqDiff, Nat.reduceAdd, Nat.reduceSub, Nat.zero_ne_one, Nat.one_ne_zero, Nat.succ_ne_zero, Nat.reduceLeDiff, reduceCtorEq, and_true, true_and, and_false, false_and, true_implies, false_implies, implies_true, not_true_eq_false, not_false_eq_true, xN_0, xN_s, xlook_c, xlook_n, xb_nil, xb_cons, xlen, xl_cons, xst_def, xst2_def, xdl_nil, xdl_int, xdl_ref, xdl_long, xrv_some, xfit_int, xfit_long, xfit_ref, cat_int, cat_ref, cat_long, xret_int, xret_bool, or_true, true_or, Option.some.injEq, Value.int.injEq, Value.ref.injEq, Value.long.injEq, List.getElem?_cons_zero, List.getElem?_cons_succ, List.set_cons_zero, List.set_cons_succ, List.length_cons, List.length_nil, xup_xup, Classical.not_not, Nat.reduceLT, Nat.zero_lt_succ]
  simp (disch := omega) only [I_lt, I_eq]
  refine ⟨fun _ => ?_, fun _ => ⟨fun _ => ?_, fun _ => ?_⟩⟩ <;> split <;> omega
theorem w_sumOfFirst (l : Launch) (d n : Nat) (ws : xW) {p m k : Nat} {f : Nat → Int} (hw : ws p = some (0, .inl (ra m f))) (hk : k ≤ m) (hm : m ≤ 24) : xM l tX9_sumOfFirst d 0 0 [.ref p, .int (I k)] n ws (fun r n' ws' => r = some (.int (I (sm f k))) ∧ n' = n ∧ ws' = ws) := by
  refine xM.of (by decide) (Nat.le_of_ble_eq_true rfl) ?_
  simp only [lv_args, cat_int, cat_ref, cat_long, reduceIte, Nat.reduceEqDiff, Nat.reduceAdd, Nat.one_ne_zero, Nat.reduceLeDiff]
  have loop : ∀ j i : Nat, i + j = k → xX l tX9_sumOfFirst d 0 0 (fun r n' ws' => r = some (.int (I (sm f k))) ∧ n' = n ∧ ws' = ws) 0 0 4 [(0, .ref p), (1, .int (I k)), (2, .int (I (sm f i))), (3, .int (I i))] [] n ws := by
    intro j
    induction j with
    | zero =>
      intro i hi
      have e : i = k := by omega
      subst e
      refine xL_ok (t := tX9_sumOfFirst) rfl (ops := oX9_sumOfFirst_4) (by decide +kernel) (T := [(0, oX9_sumOfFirst_0), (27, oX9_sumOfFirst_27)]) (by decide +kernel) 2 ?_
      simp only [oX9_sumOfFirst_0, oX9_sumOfFirst_27, oX9_sumOfFirst_4, rX9_sumOfFirst, x_iconst, x_bipush, x_sipush, x_lconst, x_iload, x_lload, x_aload, x_istore, x_lstore, x_astore, x_iinc, x_iadd, x_isub, x_imul, x_iand, x_ior, x_ixor, x_ishl, x_ishr, x_ineg, x_ladd, x_lsub, x_lmul, x_ldiv, x_lrem, x_lcmp, x_i2l, x_l2i, x_dup, x_dup_x1, x_dup2, x_if_eq, x_if_ne, x_if_lt, x_if_ge, x_if_gt, x_if_le, x_ic_eq, x_ic_ne, x_ic_lt, x_ic_ge, x_ic_gt, x_ic_le, x_goto, x_ireturn, x_lreturn, x_return, x_getfield, x_putfield, x_iaload, x_baload, x_laload, x_aaload, x_iastore, x_bastore, x_lastore, x_aastore, x_arraylength, x_newarray, x_anewarray, x_new, x_iload_0, x_iload_1, x_iload_2, x_iload_3, x_lload_0, x_lload_1, x_lload_2, x_lload_3, x_aload_0, x_aload_1, x_aload_2, x_aload_3, x_istore_0, x_istore_1, x_istore_2, x_istore_3, x_lstore_0, x_lstore_1, x_lstore_2, x_lstore_3, x_astore_0, x_astore_1, x_astore_2, x_astore_3, q_bipush_m3, q_bipush_m2, q_bipush_6, q_bipush_7, q_bipush_9, q_bipush_10, q_bipush_24, q_bipush_30, q_bipush_48, q_bipush_100, q_sipush_300, q_sipush_1000, q_sipush_24001, q_l0, q_l1, xtc_0_0, xtc_0_1, xtc_0_2, xtc_0_3, xtc_0_4, xtc_0_5, xtc_1_0, xtc_1_1, xtc_1_2, xtc_2_0, xtc_2_1, xtc_3_0, xtc_4_0, xtc_4_1, xtc_4_2, xtc_4_3, xtc_4_4, xtc_4_5, xtc_4_6, xtc_4_7, xtc_4_8, xtc_4_9, xtc_4_10, xtc_4_11, xtc_4_12, xtc_5_0, xtc_5_1, xtc_5_2, xtc_5_3, xtc_5_4, xtc_5_5, xtc_5_6, xtc_6_0, xtc_6_1, xtc_6_2, xtc_7_0, xtc_7_1, xtc_8_0, xtc_8_1, xtc_8_2, xtc_8_3, xtc_9_0, xtc_9_1, xtc_9_2, xtc_9_3, xtc_9_4, xtc_9_5, xtc_9_6, xtc_9_7, xtc_9_8, xtc_9_9, xtc_10_0, xtc_10_1, xtc_10_2, xtc_10_3, xtc_10_4, xtc_10_5, xtc_10_6, xtc_10_7, xtc_10_8, xtc_10_9, xtc_10_10, xtc_10_11, xtc_10_12, xtc_10_13, xtc_10_14, xtc_10_15, xtc_10_16, xtc_10_17, xtc_10_18, xtc_10_19, xtc_10_20, xtc_10_21, xtc_10_22, xtc_10_23, xtc_10_24, xtc_10_25, eq_self, reduceIte, Nat.reduceEqDiff, Nat.reduceAdd, Nat.reduceSub, Nat.zero_ne_one, Nat.one_ne_zero, Nat.succ_ne_zero, Nat.reduceLeDiff, reduceCtorEq, and_true, true_and, and_false, false_and, true_implies, false_implies, implies_true, not_true_eq_false, not_false_eq_true, xN_0, xN_s, xlook_c, xlook_n, xb_nil, xb_cons, xlen, xl_cons, xst_def, xst2_def, xdl_nil, xdl_int, xdl_ref, xdl_long, xrv_some, xfit_int, xfit_long, xfit_ref, cat_int, cat_ref, cat_long, xret_int, xret_bool, or_true, true_or, Option.some.injEq, Value.int.injEq, Value.ref.injEq, Value.long.injEq, List.getElem?_cons_zero, List.getElem?_cons_succ, List.set_cons_zero, List.set_cons_succ, List.length_cons, List.length_nil, xup_xup, Classical.not_not, Nat.reduceLT, Nat.zero_lt_succ, hw, ra_len]
      simp (disch := omega) only [I_le]
      exact fun h => absurd (Int.le_refl _) h
    | succ j ih =>
      intro i hi
      refine xL_ok (t := tX9_sumOfFirst) rfl (ops := oX9_sumOfFirst_4) (by decide +kernel) (T := [(0, oX9_sumOfFirst_0), (27, oX9_sumOfFirst_27)]) (by decide +kernel) 2 ?_
      simp only [oX9_sumOfFirst_0, oX9_sumOfFirst_27, oX9_sumOfFirst_4, rX9_sumOfFirst, x_iconst, x_bipush, x_sipush, x_lconst, x_iload, x_lload, x_aload, x_istore, x_lstore, x_astore, x_iinc, x_iadd, x_isub, x_imul, x_iand, x_ior, x_ixor, x_ishl, x_ishr, x_ineg, x_ladd, x_lsub, x_lmul, x_ldiv, x_lrem, x_lcmp, x_i2l, x_l2i, x_dup, x_dup_x1, x_dup2, x_if_eq, x_if_ne, x_if_lt, x_if_ge, x_if_gt, x_if_le, x_ic_eq, x_ic_ne, x_ic_lt, x_ic_ge, x_ic_gt, x_ic_le, x_goto, x_ireturn, x_lreturn, x_return, x_getfield, x_putfield, x_iaload, x_baload, x_laload, x_aaload, x_iastore, x_bastore, x_lastore, x_aastore, x_arraylength, x_newarray, x_anewarray, x_new, x_iload_0, x_iload_1, x_iload_2, x_iload_3, x_lload_0, x_lload_1, x_lload_2, x_lload_3, x_aload_0, x_aload_1, x_aload_2, x_aload_3, x_istore_0, x_istore_1, x_istore_2, x_istore_3, x_lstore_0, x_lstore_1, x_lstore_2, x_lstore_3, x_astore_0, x_astore_1, x_astore_2, x_astore_3, q_bipush_m3, q_bipush_m2, q_bipush_6, q_bipush_7, q_bipush_9, q_bipush_10, q_bipush_24, q_bipush_30, q_bipush_48, q_bipush_100, q_sipush_300, q_sipush_1000, q_sipush_24001, q_l0, q_l1, xtc_0_0, xtc_0_1, xtc_0_2, xtc_0_3, xtc_0_4, xtc_0_5, xtc_1_0, xtc_1_1, xtc_1_2, xtc_2_0, xtc_2_1, xtc_3_0, xtc_4_0, xtc_4_1, xtc_4_2, xtc_4_3, xtc_4_4, xtc_4_5, xtc_4_6, xtc_4_7, xtc_4_8, xtc_4_9, xtc_4_10, xtc_4_11, xtc_4_12, xtc_5_0, xtc_5_1, xtc_5_2, xtc_5_3, xtc_5_4, xtc_5_5, xtc_5_6, xtc_6_0, xtc_6_1, xtc_6_2, xtc_7_0, xtc_7_1, xtc_8_0, xtc_8_1, xtc_8_2, xtc_8_3, xtc_9_0, xtc_9_1, xtc_9_2, xtc_9_3, xtc_9_4, xtc_9_5, xtc_9_6, xtc_9_7, xtc_9_8, xtc_9_9, xtc_10_0, xtc_10_1, xtc_10_2, xtc_10_3, xtc_10_4, xtc_10_5, xtc_10_6, xtc_10_7, xtc_10_8, xtc_10_9, xtc_10_10, xtc_10_11, xtc_10_12, xtc_10_13, xtc_10_14, xtc_10_15, xtc_10_16, xtc_10_17, xtc_10_18, xtc_10_19, xtc_10_20, xtc_10_21, xtc_10_22, xtc_10_23, xtc_10_24, xtc_10_25, eq_self, reduceIte, Nat.reduceEqDiff, Nat.reduceAdd, Nat.reduceSub, Nat.zero_ne_one, Nat.one_ne_zero, Nat.succ_ne_zero, Nat.reduceLeDiff, reduceCtorEq, and_true, true_and, and_false, false_and, true_implies, false_implies, implies_true, not_true_eq_false, not_false_eq_true, xN_0, xN_s, xlook_c, xlook_n, xb_nil, xb_cons, xlen, xl_cons, xst_def, xst2_def, xdl_nil, xdl_int, xdl_ref, xdl_long, xrv_some, xfit_int, xfit_long, xfit_ref, cat_int, cat_ref, cat_long, xret_int, xret_bool, or_true, true_or, Option.some.injEq, Value.int.injEq, Value.ref.injEq, Value.long.injEq, List.getElem?_cons_zero, List.getElem?_cons_succ, List.set_cons_zero, List.set_cons_succ, List.length_cons, List.length_nil, xup_xup, Classical.not_not, Nat.reduceLT, Nat.zero_lt_succ, hw, ra_len]
      simp (disch := omega) only [I_le, I_in, I_add, ra_get, Int.toNat_natCast]
      refine ⟨fun h => absurd h (by omega), fun _ => ⟨fun h => absurd h (by omega), fun _ => ⟨by omega, ?_⟩⟩⟩
      exact xX.loc _ (by simp [sm]) (ih (i + 1) (by omega))
  refine xN_ok (t := tX9_sumOfFirst) rfl (T := AX9_sumOfFirst) aX9_sumOfFirst 1 _ _ _ _ _ _ _ ?_
  simp only [AX9_sumOfFirst, oX9_sumOfFirst_0, oX9_sumOfFirst_4, oX9_sumOfFirst_27, rX9_sumOfFirst, x_iconst, x_bipush, x_sipush, x_lconst, x_iload, x_lload, x_aload, x_istore, x_lstore, x_astore, x_iinc, x_iadd, x_isub, x_imul, x_iand, x_ior, x_ixor, x_ishl, x_ishr, x_ineg, x_ladd, x_lsub, x_lmul, x_ldiv, x_lrem, x_lcmp, x_i2l, x_l2i, x_dup, x_dup_x1, x_dup2, x_if_eq, x_if_ne, x_if_lt, x_if_ge, x_if_gt, x_if_le, x_ic_eq, x_ic_ne, x_ic_lt, x_ic_ge, x_ic_gt, x_ic_le, x_goto, x_ireturn, x_lreturn, x_return, x_getfield, x_putfield, x_iaload, x_baload, x_laload, x_aaload, x_iastore, x_bastore, x_lastore, x_aastore, x_arraylength, x_newarray, x_anewarray, x_new, x_iload_0, x_iload_1, x_iload_2, x_iload_3, x_lload_0, x_lload_1, x_lload_2, x_lload_3, x_aload_0, x_aload_1, x_aload_2, x_aload_3, x_istore_0, x_istore_1, x_istore_2, x_istore_3, x_lstore_0, x_lstore_1, x_lstore_2, x_lstore_3, x_astore_0, x_astore_1, x_astore_2, x_astore_3, q_bipush_m3, q_bipush_m2, q_bipush_6, q_bipush_7, q_bipush_9, q_bipush_10, q_bipush_24, q_bipush_30, q_bipush_48, q_bipush_100, q_sipush_300, q_sipush_1000, q_sipush_24001, q_l0, q_l1, xtc_0_0, xtc_0_1, xtc_0_2, xtc_0_3, xtc_0_4, xtc_0_5, xtc_1_0, xtc_1_1, xtc_1_2, xtc_2_0, xtc_2_1, xtc_3_0, xtc_4_0, xtc_4_1, xtc_4_2, xtc_4_3, xtc_4_4, xtc_4_5, xtc_4_6, xtc_4_7, xtc_4_8, xtc_4_9, xtc_4_10, xtc_4_11, xtc_4_12, xtc_5_0, xtc_5_1, xtc_5_2, xtc_5_3, xtc_5_4, xtc_5_5, xtc_5_6, xtc_6_0, xtc_6_1, xtc_6_2, xtc_7_0, xtc_7_1, xtc_8_0, xtc_8_1, xtc_8_2, xtc_8_3, xtc_9_0, xtc_9_1, xtc_9_2, xtc_9_3, xtc_9_4, xtc_9_5, xtc_9_6, xtc_9_7, xtc_9_8, xtc_9_9, xtc_10_0, xtc_10_1, xtc_10_2, xtc_10_3, xtc_10_4, xtc_10_5, xtc_10_6, xtc_10_7, xtc_10_8, xtc_10_9, xtc_10_10, xtc_10_11, xtc_10_12, xtc_10_13, xtc_10_14, xtc_10_15, xtc_10_16, xtc_10_17, xtc_10_18, xtc_10_19, xtc_10_20, xtc_10_21, xtc_10_22, xtc_10_23, xtc_10_24, xtc_10_25, eq_self, reduceIte, Nat.reduceEqDiff, Nat.reduceAdd, Nat.reduceSub, Nat.zero_ne_one, Nat.one_ne_zero, Nat.succ_ne_zero, Nat.reduceLeDiff, reduceCtorEq, and_true, true_and, and_false, false_and, true_implies, false_implies, implies_true, not_true_eq_false, not_false_eq_true, xN_0, xN_s, xlook_c, xlook_n, xb_nil, xb_cons, xlen, xl_cons, xst_def, xst2_def, xdl_nil, xdl_int, xdl_ref, xdl_long, xrv_some, xfit_int, xfit_long, xfit_ref, cat_int, cat_ref, cat_long, xret_int, xret_bool, or_true, true_or, Option.some.injEq, Value.int.injEq, Value.ref.injEq, Value.long.injEq, List.getElem?_cons_zero, List.getElem?_cons_succ, List.set_cons_zero, List.set_cons_succ, List.length_cons, List.length_nil, xup_xup, Classical.not_not, Nat.reduceLT, Nat.zero_lt_succ]
  exact xX.loc _ (by simp [sm]) (loop k 0 (by omega))
/-- the state that the calls tell of: numbers of nodes, arcs, goods; the arrays tail, head, capacity, cost, begin, end, demand, worth (0 .. 7) -/
abbrev St : Type := (Nat × Nat × Nat) × (Nat → Nat → Int)
abbrev St.nn (S : St) : Nat := S.1.1
abbrev St.na (S : St) : Nat := S.1.2.1
abbrev St.ng (S : St) : Nat := S.1.2.2
def sF (F : Nat → Nat → Int) (k : Nat) (f : Nat → Int) : Nat → Nat → Int := fun j => if j = k then f else F j
theorem sF_s (F : Nat → Nat → Int) (k : Nat) (f : Nat → Int) : sF F k f k = f := by simp [sF]
theorem sF_n (F : Nat → Nat → Int) {k j : Nat} (f : Nat → Int) (h : j ≠ k) : sF F k f j = F j := by simp [sF, h]
/-- the Net of the class: place 1, its arrays 2 .. 9 -/
def NetAt (ws : xW) (S : St) (ver wv : Int) : Prop :=
  ws 1 = some (4, .inr (.inr (.inr [.int (I S.nn), .int (I S.na), .int (I S.ng), .int (I ver), .int (I wv), .ref 2, .ref 3, .ref 4, .ref 5, .ref 6, .ref 7, .ref 8, .ref 9]))) ∧ ws 2 = some (0, .inl (ra 24 (S.2 0))) ∧ ws 3 = some (0, .inl (ra 24 (S.2 1))) ∧ ws 4 = some (0, .inl (ra 24 (S.2 2))) ∧ ws 5 = some (0, .inl (ra 24 (S.2 3))) ∧ ws 6 = some (0, .inl (ra 6 (S.2 4))) ∧ ws 7 = some (0, .inl (ra 6 (S.2 5))) ∧ ws 8 = some (0, .inl (ra 6 (S.2 6))) ∧ ws 9 = some (0, .inl (ra 6 (S.2 7)))
theorem NetAt.keep {ws ws' : xW} {S : St} {ver wv : Int} (h : NetAt ws S ver wv) (hq : ∀ q, 1 ≤ q → q ≤ 9 → ws' q = ws q) : NetAt ws' S ver wv := by
  obtain ⟨n1, n2, n3, n4, n5, n6, n7, n8, n9⟩ := h
  exact ⟨(hq 1 (by omega) (by omega)).trans n1, (hq 2 (by omega) (by omega)).trans n2, (hq 3 (by omega) (by omega)).trans n3, (hq 4 (by omega) (by omega)).trans n4, (hq 5 (by omega) (by omega)).trans n5, (hq 6 (by omega) (by omega)).trans n6, (hq 7 (by omega) (by omega)).trans n7, (hq 8 (by omega) (by omega)).trans n8, (hq 9 (by omega) (by omega)).trans n9⟩
/-- its bounds -/
def WF (S : St) : Prop := S.nn ≤ 10 ∧ S.na ≤ 24 ∧ S.ng ≤ 6 ∧ (∀ i, i < S.na → 0 ≤ S.2 0 i ∧ S.2 0 i < S.nn ∧ 0 ≤ S.2 1 i ∧ S.2 1 i < S.nn ∧ S.2 0 i ≠ S.2 1 i ∧ 0 ≤ S.2 2 i ∧ S.2 2 i ≤ 1000 ∧ 0 ≤ S.2 3 i ∧ S.2 3 i ≤ 100) ∧ (∀ g, g < S.ng → 0 ≤ S.2 4 g ∧ S.2 4 g < S.nn ∧ 0 ≤ S.2 5 g ∧ S.2 5 g < S.nn ∧ S.2 4 g ≠ S.2 5 g ∧ 1 ≤ S.2 6 g ∧ S.2 6 g ≤ 1000 ∧ 0 ≤ S.2 7 g ∧ S.2 7 g ≤ 1000)
section NET
variable {l : Launch} {d n : Nat} {ws : xW} {S : St} {ver wv : Int}
theorem w_isArc (hN : NetAt ws S ver wv) (hd : 1 ≤ d) (hna : S.na ≤ 24) {v : Int} (h1 : -2147483648 ≤ v) (h2 : v < 2147483648) : xM l tX4_isArc d 0 0 [.ref 1, .int (I v)] n ws (fun r n' ws' => r = some (.int (I (if 0 ≤ v ∧ v < S.na then 1 else 0))) ∧ n' = n ∧ ws' = ws) := by
  obtain ⟨n1, n2, n3, n4, n5, n6, n7, n8, n9⟩ := hN
  refine xM.of (by decide) (Nat.le_of_ble_eq_true rfl) ?_
  simp only [lv_args, cat_int, cat_ref, cat_long, reduceIte, Nat.reduceEqDiff, Nat.reduceAdd, Nat.one_ne_zero, Nat.reduceLeDiff]
  refine xN_ok (t := tX4_isArc) rfl (T := AX4_isArc) aX4_isArc 1 _ _ _ _ _ _ _ ?_
  simp only [AX4_isArc, oX4_isArc_0, oX4_isArc_11, rX4_isArc, x_iconst, x_bipush, x_sipush, x_lconst, x_iload, x_lload, x_aload, x_istore, x_lstore, x_astore, x_iinc, x_iadd, x_isub, x_imul, x_iand, x_ior, x_ixor, x_ishl, x_ishr, x_ineg, x_ladd, x_lsub, x_lmul, x_ldiv, x_lrem, x_lcmp, x_i2l, x_l2i, x_dup, x_dup_x1, x_dup2, x_if_eq, x_if_ne, x_if_lt, x_if_ge, x_if_gt, x_if_le, x_ic_eq, x_ic_ne, x_ic_lt, x_ic_ge, x_ic_gt, x_ic_le, x_goto, x_ireturn, x_lreturn, x_return, x_getfield, x_putfield, x_iaload, x_baload, x_laload, x_aaload, x_iastore, x_bastore, x_lastore, x_aastore, x_arraylength, x_newarray, x_anewarray, x_new, x_iload_0, x_iload_1, x_iload_2, x_iload_3, x_lload_0, x_lload_1, x_lload_2, x_lload_3, x_aload_0, x_aload_1, x_aload_2, x_aload_3, x_istore_0, x_istore_1, x_istore_2, x_istore_3, x_lstore_0, x_lstore_1, x_lstore_2, x_lstore_3, x_astore_0, x_astore_1, x_astore_2, x_astore_3, q_bipush_m3, q_bipush_m2, q_bipush_6, q_bipush_7, q_bipush_9, q_bipush_10, q_bipush_24, q_bipush_30, q_bipush_48, q_bipush_100, q_sipush_300, q_sipush_1000, q_sipush_24001, q_l0, q_l1, xtc_0_0, xtc_0_1, xtc_0_2, xtc_0_3, xtc_0_4, xtc_0_5, xtc_1_0, xtc_1_1, xtc_1_2, xtc_2_0, xtc_2_1, xtc_3_0, xtc_4_0, xtc_4_1, xtc_4_2, xtc_4_3, xtc_4_4, xtc_4_5, xtc_4_6, xtc_4_7, xtc_4_8, xtc_4_9, xtc_4_10, xtc_4_11, xtc_4_12, xtc_5_0, xtc_5_1, xtc_5_2, xtc_5_3, xtc_5_4, xtc_5_5, xtc_5_6, xtc_6_0, xtc_6_1, xtc_6_2, xtc_7_0, xtc_7_1, xtc_8_0, xtc_8_1, xtc_8_2, xtc_8_3, xtc_9_0, xtc_9_1, xtc_9_2, xtc_9_3, xtc_9_4, xtc_9_5, xtc_9_6, xtc_9_7, xtc_9_8, xtc_9_9, xtc_10_0, xtc_10_1, xtc_10_2, xtc_10_3, xtc_10_4, xtc_10_5, xtc_10_6, xtc_10_7, xtc_10_8, xtc_10_9, xtc_10_10, xtc_10_11, xtc_10_12, xtc_10_13, xtc_10_14, xtc_10_15, xtc_10_16, xtc_10_17, xtc_10_18, xtc_10_19, xtc_10_20, xtc_10_21, xtc_10_22, xtc_10_23, xtc_10_24, xtc_10_25, eq_self, reduceIte, Nat.reduceEqDiff, Nat.reduceAdd, Nat.reduceSub, Nat.zero_ne_one, Nat.one_ne_zero, Nat.succ_ne_zero, Nat.reduceLeDiff, reduceCtorEq, and_true, true_and, and_false, false_and, true_implies, false_implies, implies_true, not_true_eq_false, not_false_eq_true, xN_0, xN_s, xlook_c, xlook_n, xb_nil, xb_cons, xlen, xl_cons, xst_def, xst2_def, xdl_nil, xdl_int, xdl_ref, xdl_long, xrv_some, xfit_int, xfit_long, xfit_ref, cat_int, cat_ref, cat_long, xret_int, xret_bool, or_true, true_or, Option.some.injEq, Value.int.injEq, Value.ref.injEq, Value.long.injEq, List.getElem?_cons_zero, List.getElem?_cons_succ, List.set_cons_zero, List.set_cons_succ, List.length_cons, List.length_nil, xup_xup, Classical.not_not, Nat.reduceLT, Nat.zero_lt_succ, n1, I_sub]
  refine cX4_isArc_8 (dc := 0) (cc := 0) (cs := 0) (by omega) (by omega) (by omega) (Nat.le_of_ble_eq_true rfl) (w_isWithin l 0 _ _ (by omega) (by omega) (by omega) (by omega) (by omega) (by omega)) (pureQ ?_)
  simp only [Option.toList_some, Option.toList_none, List.cons_append, List.nil_append, Nat.sub_zero, Nat.reduceSub, Nat.sub_self]
  refine xN_ok (t := tX4_isArc) rfl (T := AX4_isArc) aX4_isArc 1 _ _ _ _ _ _ _ ?_
  simp only [AX4_isArc, oX4_isArc_0, oX4_isArc_11, rX4_isArc, x_iconst, x_bipush, x_sipush, x_lconst, x_iload, x_lload, x_aload, x_istore, x_lstore, x_astore, x_iinc, x_iadd, x_isub, x_imul, x_iand, x_ior, x_ixor, x_ishl, x_ishr, x_ineg, x_ladd, x_lsub, x_lmul, x_ldiv, x_lrem, x_lcmp, x_i2l, x_l2i, x_dup, x_dup_x1, x_dup2, x_if_eq, x_if_ne, x_if_lt, x_if_ge, x_if_gt, x_if_le, x_ic_eq, x_ic_ne, x_ic_lt, x_ic_ge, x_ic_gt, x_ic_le, x_goto, x_ireturn, x_lreturn, x_return, x_getfield, x_putfield, x_iaload, x_baload, x_laload, x_aaload, x_iastore, x_bastore, x_lastore, x_aastore, x_arraylength, x_newarray, x_anewarray, x_new, x_iload_0, x_iload_1, x_iload_2, x_iload_3, x_lload_0, x_lload_1, x_lload_2, x_lload_3, x_aload_0, x_aload_1, x_aload_2, x_aload_3, x_istore_0, x_istore_1, x_istore_2, x_istore_3, x_lstore_0, x_lstore_1, x_lstore_2, x_lstore_3, x_astore_0, x_astore_1, x_astore_2, x_astore_3, q_bipush_m3, q_bipush_m2, q_bipush_6, q_bipush_7, q_bipush_9, q_bipush_10, q_bipush_24, q_bipush_30, q_bipush_48, q_bipush_100, q_sipush_300, q_sipush_1000, q_sipush_24001, q_l0, q_l1, xtc_0_0, xtc_0_1, xtc_0_2, xtc_0_3, xtc_0_4, xtc_0_5, xtc_1_0, xtc_1_1, xtc_1_2, xtc_2_0, xtc_2_1, xtc_3_0, xtc_4_0, xtc_4_1, xtc_4_2, xtc_4_3, xtc_4_4, xtc_4_5, xtc_4_6, xtc_4_7, xtc_4_8, xtc_4_9, xtc_4_10, xtc_4_11, xtc_4_12, xtc_5_0, xtc_5_1, xtc_5_2, xtc_5_3, xtc_5_4, xtc_5_5, xtc_5_6, xtc_6_0, xtc_6_1, xtc_6_2, xtc_7_0, xtc_7_1, xtc_8_0, xtc_8_1, xtc_8_2, xtc_8_3, xtc_9_0, xtc_9_1, xtc_9_2, xtc_9_3, xtc_9_4, xtc_9_5, xtc_9_6, xtc_9_7, xtc_9_8, xtc_9_9, xtc_10_0, xtc_10_1, xtc_10_2, xtc_10_3, xtc_10_4, xtc_10_5, xtc_10_6, xtc_10_7, xtc_10_8, xtc_10_9, xtc_10_10, xtc_10_11, xtc_10_12, xtc_10_13, xtc_10_14, xtc_10_15, xtc_10_16, xtc_10_17, xtc_10_18, xtc_10_19, xtc_10_20, xtc_10_21, xtc_10_22, xtc_10_23, xtc_10_24, xtc_10_25, eq_self, reduceIte, Nat.reduceEqDiff, Nat.reduceAdd, Nat.reduceSub, Nat.zero_ne_one, Nat.one_ne_zero, Nat.succ_ne_zero, Nat.reduceLeDiff, reduceCtorEq, and_true, true_and, and_false, false_and, true_implies, false_implies, implies_true, not_true_eq_false, not_false_eq_true, xN_0, xN_s, xlook_c, xlook_n, xb_nil, xb_cons, xlen, xl_cons, xst_def, xst2_def, xdl_nil, xdl_int, xdl_ref, xdl_long, xrv_some, xfit_int, xfit_long, xfit_ref, cat_int, cat_ref, cat_long, xret_int, xret_bool, or_true, true_or, Option.some.injEq, Value.int.injEq, Value.ref.injEq, Value.long.injEq, List.getElem?_cons_zero, List.getElem?_cons_succ, List.set_cons_zero, List.set_cons_succ, List.length_cons, List.length_nil, xup_xup, Classical.not_not, Nat.reduceLT, Nat.zero_lt_succ, I_b01, Int.le_sub_one_iff]
theorem w_isGood (hN : NetAt ws S ver wv) (hd : 1 ≤ d) (hna : S.ng ≤ 6) {v : Int} (h1 : -2147483648 ≤ v) (h2 : v < 2147483648) : xM l tX4_isGood d 0 0 [.ref 1, .int (I v)] n ws (fun r n' ws' => r = some (.int (I (if 0 ≤ v ∧ v < S.ng then 1 else 0))) ∧ n' = n ∧ ws' = ws) := by
  obtain ⟨n1, n2, n3, n4, n5, n6, n7, n8, n9⟩ := hN
  refine xM.of (by decide) (Nat.le_of_ble_eq_true rfl) ?_
  simp only [lv_args, cat_int, cat_ref, cat_long, reduceIte, Nat.reduceEqDiff, Nat.reduceAdd, Nat.one_ne_zero, Nat.reduceLeDiff]
  refine xN_ok (t := tX4_isGood) rfl (T := AX4_isGood) aX4_isGood 1 _ _ _ _ _ _ _ ?_
  simp only [AX4_isGood, oX4_isGood_0, oX4_isGood_11, rX4_isGood, x_iconst, x_bipush, x_sipush, x_lconst, x_iload, x_lload, x_aload, x_istore, x_lstore, x_astore, x_iinc, x_iadd, x_isub, x_imul, x_iand, x_ior, x_ixor, x_ishl, x_ishr, x_ineg, x_ladd, x_lsub, x_lmul, x_ldiv, x_lrem, x_lcmp, x_i2l, x_l2i, x_dup, x_dup_x1, x_dup2, x_if_eq, x_if_ne, x_if_lt, x_if_ge, x_if_gt, x_if_le, x_ic_eq, x_ic_ne, x_ic_lt, x_ic_ge, x_ic_gt, x_ic_le, x_goto, x_ireturn, x_lreturn, x_return, x_getfield, x_putfield, x_iaload, x_baload, x_laload, x_aaload, x_iastore, x_bastore, x_lastore, x_aastore, x_arraylength, x_newarray, x_anewarray, x_new, x_iload_0, x_iload_1, x_iload_2, x_iload_3, x_lload_0, x_lload_1, x_lload_2, x_lload_3, x_aload_0, x_aload_1, x_aload_2, x_aload_3, x_istore_0, x_istore_1, x_istore_2, x_istore_3, x_lstore_0, x_lstore_1, x_lstore_2, x_lstore_3, x_astore_0, x_astore_1, x_astore_2, x_astore_3, q_bipush_m3, q_bipush_m2, q_bipush_6, q_bipush_7, q_bipush_9, q_bipush_10, q_bipush_24, q_bipush_30, q_bipush_48, q_bipush_100, q_sipush_300, q_sipush_1000, q_sipush_24001, q_l0, q_l1, xtc_0_0, xtc_0_1, xtc_0_2, xtc_0_3, xtc_0_4, xtc_0_5, xtc_1_0, xtc_1_1, xtc_1_2, xtc_2_0, xtc_2_1, xtc_3_0, xtc_4_0, xtc_4_1, xtc_4_2, xtc_4_3, xtc_4_4, xtc_4_5, xtc_4_6, xtc_4_7, xtc_4_8, xtc_4_9, xtc_4_10, xtc_4_11, xtc_4_12, xtc_5_0, xtc_5_1, xtc_5_2, xtc_5_3, xtc_5_4, xtc_5_5, xtc_5_6, xtc_6_0, xtc_6_1, xtc_6_2, xtc_7_0, xtc_7_1, xtc_8_0, xtc_8_1, xtc_8_2, xtc_8_3, xtc_9_0, xtc_9_1, xtc_9_2, xtc_9_3, xtc_9_4, xtc_9_5, xtc_9_6, xtc_9_7, xtc_9_8, xtc_9_9, xtc_10_0, xtc_10_1, xtc_10_2, xtc_10_3, xtc_10_4, xtc_10_5, xtc_10_6, xtc_10_7, xtc_10_8, xtc_10_9, xtc_10_10, xtc_10_11, xtc_10_12, xtc_10_13, xtc_10_14, xtc_10_15, xtc_10_16, xtc_10_17, xtc_10_18, xtc_10_19, xtc_10_20, xtc_10_21, xtc_10_22, xtc_10_23, xtc_10_24, xtc_10_25, eq_self, reduceIte, Nat.reduceEqDiff, Nat.reduceAdd, Nat.reduceSub, Nat.zero_ne_one, Nat.one_ne_zero, Nat.succ_ne_zero, Nat.reduceLeDiff, reduceCtorEq, and_true, true_and, and_false, false_and, true_implies, false_implies, implies_true, not_true_eq_false, not_false_eq_true, xN_0, xN_s, xlook_c, xlook_n, xb_nil, xb_cons, xlen, xl_cons, xst_def, xst2_def, xdl_nil, xdl_int, xdl_ref, xdl_long, xrv_some, xfit_int, xfit_long, xfit_ref, cat_int, cat_ref, cat_long, xret_int, xret_bool, or_true, true_or, Option.some.injEq, Value.int.injEq, Value.ref.injEq, Value.long.injEq, List.getElem?_cons_zero, List.getElem?_cons_succ, List.set_cons_zero, List.set_cons_succ, List.length_cons, List.length_nil, xup_xup, Classical.not_not, Nat.reduceLT, Nat.zero_lt_succ, n1, I_sub]
  refine cX4_isGood_8 (dc := 0) (cc := 0) (cs := 0) (by omega) (by omega) (by omega) (Nat.le_of_ble_eq_true rfl) (w_isWithin l 0 _ _ (by omega) (by omega) (by omega) (by omega) (by omega) (by omega)) (pureQ ?_)
  simp only [Option.toList_some, Option.toList_none, List.cons_append, List.nil_append, Nat.sub_zero, Nat.reduceSub, Nat.sub_self]
  refine xN_ok (t := tX4_isGood) rfl (T := AX4_isGood) aX4_isGood 1 _ _ _ _ _ _ _ ?_
  simp only [AX4_isGood, oX4_isGood_0, oX4_isGood_11, rX4_isGood, x_iconst, x_bipush, x_sipush, x_lconst, x_iload, x_lload, x_aload, x_istore, x_lstore, x_astore, x_iinc, x_iadd, x_isub, x_imul, x_iand, x_ior, x_ixor, x_ishl, x_ishr, x_ineg, x_ladd, x_lsub, x_lmul, x_ldiv, x_lrem, x_lcmp, x_i2l, x_l2i, x_dup, x_dup_x1, x_dup2, x_if_eq, x_if_ne, x_if_lt, x_if_ge, x_if_gt, x_if_le, x_ic_eq, x_ic_ne, x_ic_lt, x_ic_ge, x_ic_gt, x_ic_le, x_goto, x_ireturn, x_lreturn, x_return, x_getfield, x_putfield, x_iaload, x_baload, x_laload, x_aaload, x_iastore, x_bastore, x_lastore, x_aastore, x_arraylength, x_newarray, x_anewarray, x_new, x_iload_0, x_iload_1, x_iload_2, x_iload_3, x_lload_0, x_lload_1, x_lload_2, x_lload_3, x_aload_0, x_aload_1, x_aload_2, x_aload_3, x_istore_0, x_istore_1, x_istore_2, x_istore_3, x_lstore_0, x_lstore_1, x_lstore_2, x_lstore_3, x_astore_0, x_astore_1, x_astore_2, x_astore_3, q_bipush_m3, q_bipush_m2, q_bipush_6, q_bipush_7, q_bipush_9, q_bipush_10, q_bipush_24, q_bipush_30, q_bipush_48, q_bipush_100, q_sipush_300, q_sipush_1000, q_sipush_24001, q_l0, q_l1, xtc_0_0, xtc_0_1, xtc_0_2, xtc_0_3, xtc_0_4, xtc_0_5, xtc_1_0, xtc_1_1, xtc_1_2, xtc_2_0, xtc_2_1, xtc_3_0, xtc_4_0, xtc_4_1, xtc_4_2, xtc_4_3, xtc_4_4, xtc_4_5, xtc_4_6, xtc_4_7, xtc_4_8, xtc_4_9, xtc_4_10, xtc_4_11, xtc_4_12, xtc_5_0, xtc_5_1, xtc_5_2, xtc_5_3, xtc_5_4, xtc_5_5, xtc_5_6, xtc_6_0, xtc_6_1, xtc_6_2, xtc_7_0, xtc_7_1, xtc_8_0, xtc_8_1, xtc_8_2, xtc_8_3, xtc_9_0, xtc_9_1, xtc_9_2, xtc_9_3, xtc_9_4, xtc_9_5, xtc_9_6, xtc_9_7, xtc_9_8, xtc_9_9, xtc_10_0, xtc_10_1, xtc_10_2, xtc_10_3, xtc_10_4, xtc_10_5, xtc_10_6, xtc_10_7, xtc_10_8, xtc_10_9, xtc_10_10, xtc_10_11, xtc_10_12, xtc_10_13, xtc_10_14, xtc_10_15, xtc_10_16, xtc_10_17, xtc_10_18, xtc_10_19, xtc_10_20, xtc_10_21, xtc_10_22, xtc_10_23, xtc_10_24, xtc_10_25, eq_self, reduceIte, Nat.reduceEqDiff, Nat.reduceAdd, Nat.reduceSub, Nat.zero_ne_one, Nat.one_ne_zero, Nat.succ_ne_zero, Nat.reduceLeDiff, reduceCtorEq, and_true, true_and, and_false, false_and, true_implies, false_implies, implies_true, not_true_eq_false, not_false_eq_true, xN_0, xN_s, xlook_c, xlook_n, xb_nil, xb_cons, xlen, xl_cons, xst_def, xst2_def, xdl_nil, xdl_int, xdl_ref, xdl_long, xrv_some, xfit_int, xfit_long, xfit_ref, cat_int, cat_ref, cat_long, xret_int, xret_bool, or_true, true_or, Option.some.injEq, Value.int.injEq, Value.ref.injEq, Value.long.injEq, List.getElem?_cons_zero, List.getElem?_cons_succ, List.set_cons_zero, List.set_cons_succ, List.length_cons, List.length_nil, xup_xup, Classical.not_not, Nat.reduceLT, Nat.zero_lt_succ, I_b01, Int.le_sub_one_iff]
theorem w_areTwoNodes (hN : NetAt ws S ver wv) (hd : 1 ≤ d) (hna : S.nn ≤ 10) {a b : Int} (h1 : -2147483648 ≤ a) (h2 : a < 2147483648) (h3 : -2147483648 ≤ b) (h4 : b < 2147483648) : xM l tX4_areTwoNodes d 0 0 [.ref 1, .int (I a), .int (I b)] n ws (fun r n' ws' => r = some (.int (I (if a ≠ b ∧ (0 ≤ a ∧ a < S.nn) ∧ (0 ≤ b ∧ b < S.nn) then 1 else 0))) ∧ n' = n ∧ ws' = ws) := by
  obtain ⟨n1, n2, n3, n4, n5, n6, n7, n8, n9⟩ := hN
  refine xM.of (by decide) (Nat.le_of_ble_eq_true rfl) ?_
  simp only [lv_args, cat_int, cat_ref, cat_long, reduceIte, Nat.reduceEqDiff, Nat.reduceAdd, Nat.one_ne_zero, Nat.reduceLeDiff]
  refine xN_ok (t := tX4_areTwoNodes) rfl (T := AX4_areTwoNodes) aX4_areTwoNodes 4 _ _ _ _ _ _ _ ?_
  simp only [AX4_areTwoNodes, oX4_areTwoNodes_0, oX4_areTwoNodes_16, oX4_areTwoNodes_30, oX4_areTwoNodes_37, oX4_areTwoNodes_38, rX4_areTwoNodes, x_iconst, x_bipush, x_sipush, x_lconst, x_iload, x_lload, x_aload, x_istore, x_lstore, x_astore, x_iinc, x_iadd, x_isub, x_imul, x_iand, x_ior, x_ixor, x_ishl, x_ishr, x_ineg, x_ladd, x_lsub, x_lmul, x_ldiv, x_lrem, x_lcmp, x_i2l, x_l2i, x_dup, x_dup_x1, x_dup2, x_if_eq, x_if_ne, x_if_lt, x_if_ge, x_if_gt, x_if_le, x_ic_eq, x_ic_ne, x_ic_lt, x_ic_ge, x_ic_gt, x_ic_le, x_goto, x_ireturn, x_lreturn, x_return, x_getfield, x_putfield, x_iaload, x_baload, x_laload, x_aaload, x_iastore, x_bastore, x_lastore, x_aastore, x_arraylength, x_newarray, x_anewarray, x_new, x_iload_0, x_iload_1, x_iload_2, x_iload_3, x_lload_0, x_lload_1, x_lload_2, x_lload_3, x_aload_0, x_aload_1, x_aload_2, x_aload_3, x_istore_0, x_istore_1, x_istore_2, x_istore_3, x_lstore_0, x_lstore_1, x_lstore_2, x_lstore_3, x_astore_0, x_astore_1, x_astore_2, x_astore_3, q_bipush_m3, q_bipush_m2, q_bipush_6, q_bipush_7, q_bipush_9, q_bipush_10, q_bipush_24, q_bipush_30, q_bipush_48, q_bipush_100, q_sipush_300, q_sipush_1000, q_sipush_24001, q_l0, q_l1, xtc_0_0, xtc_0_1, xtc_0_2, xtc_0_3, xtc_0_4, xtc_0_5, xtc_1_0, xtc_1_1, xtc_1_2, xtc_2_0, xtc_2_1, xtc_3_0, xtc_4_0, xtc_4_1, xtc_4_2, xtc_4_3, xtc_4_4, xtc_4_5, xtc_4_6, xtc_4_7, xtc_4_8, xtc_4_9, xtc_4_10, xtc_4_11, xtc_4_12, xtc_5_0, xtc_5_1, xtc_5_2, xtc_5_3, xtc_5_4, xtc_5_5, xtc_5_6, xtc_6_0, xtc_6_1, xtc_6_2, xtc_7_0, xtc_7_1, xtc_8_0, xtc_8_1, xtc_8_2, xtc_8_3, xtc_9_0, xtc_9_1, xtc_9_2, xtc_9_3, xtc_9_4, xtc_9_5, xtc_9_6, xtc_9_7, xtc_9_8, xtc_9_9, xtc_10_0, xtc_10_1, xtc_10_2, xtc_10_3, xtc_10_4, xtc_10_5, xtc_10_6, xtc_10_7, xtc_10_8, xtc_10_9, xtc_10_10, xtc_10_11, xtc_10_12, xtc_10_13, xtc_10_14, xtc_10_15, xtc_10_16, xtc_10_17, xtc_10_18, xtc_10_19, xtc_10_20, xtc_10_21, xtc_10_22, xtc_10_23, xtc_10_24, xtc_10_25, eq_self, reduceIte, Nat.reduceEqDiff, Nat.reduceAdd, Nat.reduceSub, Nat.zero_ne_one, Nat.one_ne_zero, Nat.succ_ne_zero, Nat.reduceLeDiff, reduceCtorEq, and_true, true_and, and_false, false_and, true_implies, false_implies, implies_true, not_true_eq_false, not_false_eq_true, xN_0, xN_s, xlook_c, xlook_n, xb_nil, xb_cons, xlen, xl_cons, xst_def, xst2_def, xdl_nil, xdl_int, xdl_ref, xdl_long, xrv_some, xfit_int, xfit_long, xfit_ref, cat_int, cat_ref, cat_long, xret_int, xret_bool, or_true, true_or, Option.some.injEq, Value.int.injEq, Value.ref.injEq, Value.long.injEq, List.getElem?_cons_zero, List.getElem?_cons_succ, List.set_cons_zero, List.set_cons_succ, List.length_cons, List.length_nil, xup_xup, Classical.not_not, Nat.reduceLT, Nat.zero_lt_succ, n1, I_sub]
  simp (disch := omega) only [I_eq]
  refine ⟨fun e => by simp [e], fun e => ?_⟩
  refine cX4_areTwoNodes_13 (dc := 0) (cc := 0) (cs := 0) (by omega) (by omega) (by omega) (Nat.le_of_ble_eq_true rfl) (w_isWithin l 0 _ _ (by omega) (by omega) (by omega) (by omega) (by omega) (by omega)) (pureQ ?_)
  simp only [Option.toList_some, Option.toList_none, List.cons_append, List.nil_append, Nat.sub_zero, Nat.reduceSub, Nat.sub_self]
  refine xN_ok (t := tX4_areTwoNodes) rfl (T := AX4_areTwoNodes) aX4_areTwoNodes 4 _ _ _ _ _ _ _ ?_
  simp only [AX4_areTwoNodes, oX4_areTwoNodes_0, oX4_areTwoNodes_16, oX4_areTwoNodes_30, oX4_areTwoNodes_37, oX4_areTwoNodes_38, rX4_areTwoNodes, x_iconst, x_bipush, x_sipush, x_lconst, x_iload, x_lload, x_aload, x_istore, x_lstore, x_astore, x_iinc, x_iadd, x_isub, x_imul, x_iand, x_ior, x_ixor, x_ishl, x_ishr, x_ineg, x_ladd, x_lsub, x_lmul, x_ldiv, x_lrem, x_lcmp, x_i2l, x_l2i, x_dup, x_dup_x1, x_dup2, x_if_eq, x_if_ne, x_if_lt, x_if_ge, x_if_gt, x_if_le, x_ic_eq, x_ic_ne, x_ic_lt, x_ic_ge, x_ic_gt, x_ic_le, x_goto, x_ireturn, x_lreturn, x_return, x_getfield, x_putfield, x_iaload, x_baload, x_laload, x_aaload, x_iastore, x_bastore, x_lastore, x_aastore, x_arraylength, x_newarray, x_anewarray, x_new, x_iload_0, x_iload_1, x_iload_2, x_iload_3, x_lload_0, x_lload_1, x_lload_2, x_lload_3, x_aload_0, x_aload_1, x_aload_2, x_aload_3, x_istore_0, x_istore_1, x_istore_2, x_istore_3, x_lstore_0, x_lstore_1, x_lstore_2, x_lstore_3, x_astore_0, x_astore_1, x_astore_2, x_astore_3, q_bipush_m3, q_bipush_m2, q_bipush_6, q_bipush_7, q_bipush_9, q_bipush_10, q_bipush_24, q_bipush_30, q_bipush_48, q_bipush_100, q_sipush_300, q_sipush_1000, q_sipush_24001, q_l0, q_l1, xtc_0_0, xtc_0_1, xtc_0_2, xtc_0_3, xtc_0_4, xtc_0_5, xtc_1_0, xtc_1_1, xtc_1_2, xtc_2_0, xtc_2_1, xtc_3_0, xtc_4_0, xtc_4_1, xtc_4_2, xtc_4_3, xtc_4_4, xtc_4_5, xtc_4_6, xtc_4_7, xtc_4_8, xtc_4_9, xtc_4_10, xtc_4_11, xtc_4_12, xtc_5_0, xtc_5_1, xtc_5_2, xtc_5_3, xtc_5_4, xtc_5_5, xtc_5_6, xtc_6_0, xtc_6_1, xtc_6_2, xtc_7_0, xtc_7_1, xtc_8_0, xtc_8_1, xtc_8_2, xtc_8_3, xtc_9_0, xtc_9_1, xtc_9_2, xtc_9_3, xtc_9_4, xtc_9_5, xtc_9_6, xtc_9_7, xtc_9_8, xtc_9_9, xtc_10_0, xtc_10_1, xtc_10_2, xtc_10_3, xtc_10_4, xtc_10_5, xtc_10_6, xtc_10_7, xtc_10_8, xtc_10_9, xtc_10_10, xtc_10_11, xtc_10_12, xtc_10_13, xtc_10_14, xtc_10_15, xtc_10_16, xtc_10_17, xtc_10_18, xtc_10_19, xtc_10_20, xtc_10_21, xtc_10_22, xtc_10_23, xtc_10_24, xtc_10_25, eq_self, reduceIte, Nat.reduceEqDiff, Nat.reduceAdd, Nat.reduceSub, Nat.zero_ne_one, Nat.one_ne_zero, Nat.succ_ne_zero, Nat.reduceLeDiff, reduceCtorEq, and_true, true_and, and_false, false_and, true_implies, false_implies, implies_true, not_true_eq_false, not_false_eq_true, xN_0, xN_s, xlook_c, xlook_n, xb_nil, xb_cons, xlen, xl_cons, xst_def, xst2_def, xdl_nil, xdl_int, xdl_ref, xdl_long, xrv_some, xfit_int, xfit_long, xfit_ref, cat_int, cat_ref, cat_long, xret_int, xret_bool, or_true, true_or, Option.some.injEq, Value.int.injEq, Value.ref.injEq, Value.long.injEq, List.getElem?_cons_zero, List.getElem?_cons_succ, List.set_cons_zero, List.set_cons_succ, List.length_cons, List.length_nil, xup_xup, Classical.not_not, Nat.reduceLT, Nat.zero_lt_succ, n1, I_sub, I_b0, Int.le_sub_one_iff]
  simp (disch := omega) only [I_eq]
  refine ⟨fun e1 => by rw [if_neg (fun q => e1 q.2.1)], fun e1 => ?_⟩
  refine cX4_areTwoNodes_27 (dc := 0) (cc := 0) (cs := 0) (by omega) (by omega) (by omega) (Nat.le_of_ble_eq_true rfl) (w_isWithin l 0 _ _ (by omega) (by omega) (by omega) (by omega) (by omega) (by omega)) (pureQ ?_)
  simp only [Option.toList_some, Option.toList_none, List.cons_append, List.nil_append, Nat.sub_zero, Nat.reduceSub, Nat.sub_self]
  refine xN_ok (t := tX4_areTwoNodes) rfl (T := AX4_areTwoNodes) aX4_areTwoNodes 4 _ _ _ _ _ _ _ ?_
  simp only [AX4_areTwoNodes, oX4_areTwoNodes_0, oX4_areTwoNodes_16, oX4_areTwoNodes_30, oX4_areTwoNodes_37, oX4_areTwoNodes_38, rX4_areTwoNodes, x_iconst, x_bipush, x_sipush, x_lconst, x_iload, x_lload, x_aload, x_istore, x_lstore, x_astore, x_iinc, x_iadd, x_isub, x_imul, x_iand, x_ior, x_ixor, x_ishl, x_ishr, x_ineg, x_ladd, x_lsub, x_lmul, x_ldiv, x_lrem, x_lcmp, x_i2l, x_l2i, x_dup, x_dup_x1, x_dup2, x_if_eq, x_if_ne, x_if_lt, x_if_ge, x_if_gt, x_if_le, x_ic_eq, x_ic_ne, x_ic_lt, x_ic_ge, x_ic_gt, x_ic_le, x_goto, x_ireturn, x_lreturn, x_return, x_getfield, x_putfield, x_iaload, x_baload, x_laload, x_aaload, x_iastore, x_bastore, x_lastore, x_aastore, x_arraylength, x_newarray, x_anewarray, x_new, x_iload_0, x_iload_1, x_iload_2, x_iload_3, x_lload_0, x_lload_1, x_lload_2, x_lload_3, x_aload_0, x_aload_1, x_aload_2, x_aload_3, x_istore_0, x_istore_1, x_istore_2, x_istore_3, x_lstore_0, x_lstore_1, x_lstore_2, x_lstore_3, x_astore_0, x_astore_1, x_astore_2, x_astore_3, q_bipush_m3, q_bipush_m2, q_bipush_6, q_bipush_7, q_bipush_9, q_bipush_10, q_bipush_24, q_bipush_30, q_bipush_48, q_bipush_100, q_sipush_300, q_sipush_1000, q_sipush_24001, q_l0, q_l1, xtc_0_0, xtc_0_1, xtc_0_2, xtc_0_3, xtc_0_4, xtc_0_5, xtc_1_0, xtc_1_1, xtc_1_2, xtc_2_0, xtc_2_1, xtc_3_0, xtc_4_0, xtc_4_1, xtc_4_2, xtc_4_3, xtc_4_4, xtc_4_5, xtc_4_6, xtc_4_7, xtc_4_8, xtc_4_9, xtc_4_10, xtc_4_11, xtc_4_12, xtc_5_0, xtc_5_1, xtc_5_2, xtc_5_3, xtc_5_4, xtc_5_5, xtc_5_6, xtc_6_0, xtc_6_1, xtc_6_2, xtc_7_0, xtc_7_1, xtc_8_0, xtc_8_1, xtc_8_2, xtc_8_3, xtc_9_0, xtc_9_1, xtc_9_2, xtc_9_3, xtc_9_4, xtc_9_5, xtc_9_6, xtc_9_7, xtc_9_8, xtc_9_9, xtc_10_0, xtc_10_1, xtc_10_2, xtc_10_3, xtc_10_4, xtc_10_5, xtc_10_6, xtc_10_7, xtc_10_8, xtc_10_9, xtc_10_10, xtc_10_11, xtc_10_12, xtc_10_13, xtc_10_14, xtc_10_15, xtc_10_16, xtc_10_17, xtc_10_18, xtc_10_19, xtc_10_20, xtc_10_21, xtc_10_22, xtc_10_23, xtc_10_24, xtc_10_25, eq_self, reduceIte, Nat.reduceEqDiff, Nat.reduceAdd, Nat.reduceSub, Nat.zero_ne_one, Nat.one_ne_zero, Nat.succ_ne_zero, Nat.reduceLeDiff, reduceCtorEq, and_true, true_and, and_false, false_and, true_implies, false_implies, implies_true, not_true_eq_false, not_false_eq_true, xN_0, xN_s, xlook_c, xlook_n, xb_nil, xb_cons, xlen, xl_cons, xst_def, xst2_def, xdl_nil, xdl_int, xdl_ref, xdl_long, xrv_some, xfit_int, xfit_long, xfit_ref, cat_int, cat_ref, cat_long, xret_int, xret_bool, or_true, true_or, Option.some.injEq, Value.int.injEq, Value.ref.injEq, Value.long.injEq, List.getElem?_cons_zero, List.getElem?_cons_succ, List.set_cons_zero, List.set_cons_succ, List.length_cons, List.length_nil, xup_xup, Classical.not_not, Nat.reduceLT, Nat.zero_lt_succ, n1, I_sub, I_b0, Int.le_sub_one_iff]
  simp (disch := omega) only [I_eq]
  refine ⟨fun e2 => by rw [if_neg (fun q => e2 q.2.2)], fun e2 => ?_⟩
  rw [if_pos ⟨e, e1, e2⟩]
theorem w_addArc (hN : NetAt ws S ver wv) (hna : S.na < 24) {a b c k : Int} : xM l tX4_addArc d 0 0 [.ref 1, .int (I a), .int (I b), .int (I c), .int (I k)] n ws (fun r n' ws' => r = some (.int (I S.na)) ∧ n' = n ∧ NetAt ws' ((S.nn, S.na + 1, S.ng), sF (sF (sF (sF S.2 0 (fu (S.2 0) S.na a)) 1 (fu (S.2 1) S.na b)) 2 (fu (S.2 2) S.na c)) 3 (fu (S.2 3) S.na k)) (ver + 1) (wv + 1) ∧ ∀ q, 10 ≤ q ∨ q = 0 → ws' q = ws q) := by
  obtain ⟨n1, n2, n3, n4, n5, n6, n7, n8, n9⟩ := hN
  refine xM.of (by decide) (Nat.le_of_ble_eq_true rfl) ?_
  simp only [lv_args, cat_int, cat_ref, cat_long, reduceIte, Nat.reduceEqDiff, Nat.reduceAdd, Nat.one_ne_zero, Nat.reduceLeDiff]
  refine xN_ok (t := tX4_addArc) rfl (T := AX4_addArc) aX4_addArc 1 _ _ _ _ _ _ _ ?_
  simp only [AX4_addArc, oX4_addArc_0, rX4_addArc, x_iconst, x_bipush, x_sipush, x_lconst, x_iload, x_lload, x_aload, x_istore, x_lstore, x_astore, x_iinc, x_iadd, x_isub, x_imul, x_iand, x_ior, x_ixor, x_ishl, x_ishr, x_ineg, x_ladd, x_lsub, x_lmul, x_ldiv, x_lrem, x_lcmp, x_i2l, x_l2i, x_dup, x_dup_x1, x_dup2, x_if_eq, x_if_ne, x_if_lt, x_if_ge, x_if_gt, x_if_le, x_ic_eq, x_ic_ne, x_ic_lt, x_ic_ge, x_ic_gt, x_ic_le, x_goto, x_ireturn, x_lreturn, x_return, x_getfield, x_putfield, x_iaload, x_baload, x_laload, x_aaload, x_iastore, x_bastore, x_lastore, x_aastore, x_arraylength, x_newarray, x_anewarray, x_new, x_iload_0, x_iload_1, x_iload_2, x_iload_3, x_lload_0, x_lload_1, x_lload_2, x_lload_3, x_aload_0, x_aload_1, x_aload_2, x_aload_3, x_istore_0, x_istore_1, x_istore_2, x_istore_3, x_lstore_0, x_lstore_1, x_lstore_2, x_lstore_3, x_astore_0, x_astore_1, x_astore_2, x_astore_3, q_bipush_m3, q_bipush_m2, q_bipush_6, q_bipush_7, q_bipush_9, q_bipush_10, q_bipush_24, q_bipush_30, q_bipush_48, q_bipush_100, q_sipush_300, q_sipush_1000, q_sipush_24001, q_l0, q_l1, xtc_0_0, xtc_0_1, xtc_0_2, xtc_0_3, xtc_0_4, xtc_0_5, xtc_1_0, xtc_1_1, xtc_1_2, xtc_2_0, xtc_2_1, xtc_3_0, xtc_4_0, xtc_4_1, xtc_4_2, xtc_4_3, xtc_4_4, xtc_4_5, xtc_4_6, xtc_4_7, xtc_4_8, xtc_4_9, xtc_4_10, xtc_4_11, xtc_4_12, xtc_5_0, xtc_5_1, xtc_5_2, xtc_5_3, xtc_5_4, xtc_5_5, xtc_5_6, xtc_6_0, xtc_6_1, xtc_6_2, xtc_7_0, xtc_7_1, xtc_8_0, xtc_8_1, xtc_8_2, xtc_8_3, xtc_9_0, xtc_9_1, xtc_9_2, xtc_9_3, xtc_9_4, xtc_9_5, xtc_9_6, xtc_9_7, xtc_9_8, xtc_9_9, xtc_10_0, xtc_10_1, xtc_10_2, xtc_10_3, xtc_10_4, xtc_10_5, xtc_10_6, xtc_10_7, xtc_10_8, xtc_10_9, xtc_10_10, xtc_10_11, xtc_10_12, xtc_10_13, xtc_10_14, xtc_10_15, xtc_10_16, xtc_10_17, xtc_10_18, xtc_10_19, xtc_10_20, xtc_10_21, xtc_10_22, xtc_10_23, xtc_10_24, xtc_10_25, eq_self, reduceIte, Nat.reduceEqDiff, Nat.reduceAdd, Nat.reduceSub, Nat.zero_ne_one, Nat.one_ne_zero, Nat.succ_ne_zero, Nat.reduceLeDiff, reduceCtorEq, and_true, true_and, and_false, false_and, true_implies, false_implies, implies_true, not_true_eq_false, not_false_eq_true, xN_0, xN_s, xlook_c, xlook_n, xb_nil, xb_cons, xlen, xl_cons, xst_def, xst2_def, xdl_nil, xdl_int, xdl_ref, xdl_long, xrv_some, xfit_int, xfit_long, xfit_ref, cat_int, cat_ref, cat_long, xret_int, xret_bool, or_true, true_or, Option.some.injEq, Value.int.injEq, Value.ref.injEq, Value.long.injEq, List.getElem?_cons_zero, List.getElem?_cons_succ, List.set_cons_zero, List.set_cons_succ, List.length_cons, List.length_nil, xup_xup, Classical.not_not, Nat.reduceLT, Nat.zero_lt_succ, n1, n2, n3, n4, n5, xup_self, xup_ne, ne_eq, I_add, ra_len]
  simp (disch := omega) only [I_in, I_add, ra_set, Int.toNat_natCast]
  refine ⟨by omega, by omega, by omega, by omega, ?_, ?_⟩
  · simp only [NetAt, xup_self, xup_ne, ne_eq, Nat.reduceEqDiff, not_false_eq_true, n6, n7, n8, n9, sF]
    simp
    rfl
  · intro q hq
    simp only [xup]
    repeat rw [if_neg (by omega)]
theorem w_addGood (hN : NetAt ws S ver wv) (hna : S.ng < 6) {a b c k : Int} : xM l tX4_addGood d 0 0 [.ref 1, .int (I a), .int (I b), .int (I c), .int (I k)] n ws (fun r n' ws' => r = some (.int (I S.ng)) ∧ n' = n ∧ NetAt ws' ((S.nn, S.na, S.ng + 1), sF (sF (sF (sF S.2 4 (fu (S.2 4) S.ng a)) 5 (fu (S.2 5) S.ng b)) 6 (fu (S.2 6) S.ng c)) 7 (fu (S.2 7) S.ng k)) (ver + 1) (wv + 1) ∧ ∀ q, 10 ≤ q ∨ q = 0 → ws' q = ws q) := by
  obtain ⟨n1, n2, n3, n4, n5, n6, n7, n8, n9⟩ := hN
  refine xM.of (by decide) (Nat.le_of_ble_eq_true rfl) ?_
  simp only [lv_args, cat_int, cat_ref, cat_long, reduceIte, Nat.reduceEqDiff, Nat.reduceAdd, Nat.one_ne_zero, Nat.reduceLeDiff]
  refine xN_ok (t := tX4_addGood) rfl (T := AX4_addGood) aX4_addGood 1 _ _ _ _ _ _ _ ?_
  simp only [AX4_addGood, oX4_addGood_0, rX4_addGood, x_iconst, x_bipush, x_sipush, x_lconst, x_iload, x_lload, x_aload, x_istore, x_lstore, x_astore, x_iinc, x_iadd, x_isub, x_imul, x_iand, x_ior, x_ixor, x_ishl, x_ishr, x_ineg, x_ladd, x_lsub, x_lmul, x_ldiv, x_lrem, x_lcmp, x_i2l, x_l2i, x_dup, x_dup_x1, x_dup2, x_if_eq, x_if_ne, x_if_lt, x_if_ge, x_if_gt, x_if_le, x_ic_eq, x_ic_ne, x_ic_lt, x_ic_ge, x_ic_gt, x_ic_le, x_goto, x_ireturn, x_lreturn, x_return, x_getfield, x_putfield, x_iaload, x_baload, x_laload, x_aaload, x_iastore, x_bastore, x_lastore, x_aastore, x_arraylength, x_newarray, x_anewarray, x_new, x_iload_0, x_iload_1, x_iload_2, x_iload_3, x_lload_0, x_lload_1, x_lload_2, x_lload_3, x_aload_0, x_aload_1, x_aload_2, x_aload_3, x_istore_0, x_istore_1, x_istore_2, x_istore_3, x_lstore_0, x_lstore_1, x_lstore_2, x_lstore_3, x_astore_0, x_astore_1, x_astore_2, x_astore_3, q_bipush_m3, q_bipush_m2, q_bipush_6, q_bipush_7, q_bipush_9, q_bipush_10, q_bipush_24, q_bipush_30, q_bipush_48, q_bipush_100, q_sipush_300, q_sipush_1000, q_sipush_24001, q_l0, q_l1, xtc_0_0, xtc_0_1, xtc_0_2, xtc_0_3, xtc_0_4, xtc_0_5, xtc_1_0, xtc_1_1, xtc_1_2, xtc_2_0, xtc_2_1, xtc_3_0, xtc_4_0, xtc_4_1, xtc_4_2, xtc_4_3, xtc_4_4, xtc_4_5, xtc_4_6, xtc_4_7, xtc_4_8, xtc_4_9, xtc_4_10, xtc_4_11, xtc_4_12, xtc_5_0, xtc_5_1, xtc_5_2, xtc_5_3, xtc_5_4, xtc_5_5, xtc_5_6, xtc_6_0, xtc_6_1, xtc_6_2, xtc_7_0, xtc_7_1, xtc_8_0, xtc_8_1, xtc_8_2, xtc_8_3, xtc_9_0, xtc_9_1, xtc_9_2, xtc_9_3, xtc_9_4, xtc_9_5, xtc_9_6, xtc_9_7, xtc_9_8, xtc_9_9, xtc_10_0, xtc_10_1, xtc_10_2, xtc_10_3, xtc_10_4, xtc_10_5, xtc_10_6, xtc_10_7, xtc_10_8, xtc_10_9, xtc_10_10, xtc_10_11, xtc_10_12, xtc_10_13, xtc_10_14, xtc_10_15, xtc_10_16, xtc_10_17, xtc_10_18, xtc_10_19, xtc_10_20, xtc_10_21, xtc_10_22, xtc_10_23, xtc_10_24, xtc_10_25, eq_self, reduceIte, Nat.reduceEqDiff, Nat.reduceAdd, Nat.reduceSub, Nat.zero_ne_one, Nat.one_ne_zero, Nat.succ_ne_zero, Nat.reduceLeDiff, reduceCtorEq, and_true, true_and, and_false, false_and, true_implies, false_implies, implies_true, not_true_eq_false, not_false_eq_true, xN_0, xN_s, xlook_c, xlook_n, xb_nil, xb_cons, xlen, xl_cons, xst_def, xst2_def, xdl_nil, xdl_int, xdl_ref, xdl_long, xrv_some, xfit_int, xfit_long, xfit_ref, cat_int, cat_ref, cat_long, xret_int, xret_bool, or_true, true_or, Option.some.injEq, Value.int.injEq, Value.ref.injEq, Value.long.injEq, List.getElem?_cons_zero, List.getElem?_cons_succ, List.set_cons_zero, List.set_cons_succ, List.length_cons, List.length_nil, xup_xup, Classical.not_not, Nat.reduceLT, Nat.zero_lt_succ, n1, n6, n7, n8, n9, xup_self, xup_ne, ne_eq, I_add, ra_len]
  simp (disch := omega) only [I_in, I_add, ra_set, Int.toNat_natCast]
  refine ⟨by omega, by omega, by omega, by omega, ?_, ?_⟩
  · simp only [NetAt, xup_self, xup_ne, ne_eq, Nat.reduceEqDiff, not_false_eq_true, n2, n3, n4, n5, sF]
    simp
    rfl
  · intro q hq
    simp only [xup]
    repeat rw [if_neg (by omega)]
end NET
end
section
section CLS
variable {l : Launch} {d n : Nat} {ws : xW} {S : St} {ver wv pv : Int}
/-- the object of the class -/
def ObjAt (ws : xW) (pv : Int) : Prop := ws 0 = some (9, .inr (.inr (.inr [.ref 1, .ref 10, .ref 86, .ref 93, .ref 100, .ref 102, .ref 104, .ref 105, .ref 117, .int (I pv)])))
def putNode (S : St) : St := ((S.nn + 1, S.na, S.ng), S.2)
def okArc (S : St) (a b c k : Int) : Prop := (a ≠ b ∧ (0 ≤ a ∧ a < S.nn) ∧ (0 ≤ b ∧ b < S.nn)) ∧ (0 ≤ c ∧ c ≤ 1000) ∧ (0 ≤ k ∧ k ≤ 100)
def putArc (S : St) (a b c k : Int) : St := ((S.nn, S.na + 1, S.ng), sF (sF (sF (sF S.2 0 (fu (S.2 0) S.na a)) 1 (fu (S.2 1) S.na b)) 2 (fu (S.2 2) S.na c)) 3 (fu (S.2 3) S.na k))
def okGood (S : St) (a b c k : Int) : Prop := (a ≠ b ∧ (0 ≤ a ∧ a < S.nn) ∧ (0 ≤ b ∧ b < S.nn)) ∧ (1 ≤ c ∧ c ≤ 1000) ∧ (0 ≤ k ∧ k ≤ 1000)
def putGood (S : St) (a b c k : Int) : St := ((S.nn, S.na, S.ng + 1), sF (sF (sF (sF S.2 4 (fu (S.2 4) S.ng a)) 5 (fu (S.2 5) S.ng b)) 6 (fu (S.2 6) S.ng c)) 7 (fu (S.2 7) S.ng k))
def putF (S : St) (k : Nat) (i : Nat) (v : Int) : St := (S.1, sF S.2 k (fu (S.2 k) i v))
theorem w_node (hO : ObjAt ws pv) (hN : NetAt ws S ver wv) (hw : WF S) : xM l tX9_node d 0 0 [.ref 0] n ws (fun r n' ws' => n' = n ∧ ((S.nn = 10 ∧ r = some (.int (I (-3))) ∧ ws' = ws) ∨ (S.nn < 10 ∧ r = some (.int (I S.nn)) ∧ NetAt ws' (putNode S) (ver + 1) wv ∧ ∀ q, 10 ≤ q ∨ q = 0 → ws' q = ws q))) := by
  obtain ⟨n1, n2, n3, n4, n5, n6, n7, n8, n9⟩ := hN
  have hb : S.nn ≤ 10 := hw.1
  unfold ObjAt at hO
  refine xM.of (by decide) (Nat.le_of_ble_eq_true rfl) ?_
  simp only [lv_args, cat_int, cat_ref, cat_long, reduceIte, Nat.reduceEqDiff, Nat.reduceAdd, Nat.one_ne_zero, Nat.reduceLeDiff]
  refine xN_ok (t := tX9_node) rfl (T := AX9_node) aX9_node 2 _ _ _ _ _ _ _ ?_
  simp only [AX9_node, oX9_node_0, oX9_node_15, rX9_node, x_iconst, x_bipush, x_sipush, x_lconst, x_iload, x_lload, x_aload, x_istore, x_lstore, x_astore, x_iinc, x_iadd, x_isub, x_imul, x_iand, x_ior, x_ixor, x_ishl, x_ishr, x_ineg, x_ladd, x_lsub, x_lmul, x_ldiv, x_lrem, x_lcmp, x_i2l, x_l2i, x_dup, x_dup_x1, x_dup2, x_if_eq, x_if_ne, x_if_lt, x_if_ge, x_if_gt, x_if_le, x_ic_eq, x_ic_ne, x_ic_lt, x_ic_ge, x_ic_gt, x_ic_le, x_goto, x_ireturn, x_lreturn, x_return, x_getfield, x_putfield, x_iaload, x_baload, x_laload, x_aaload, x_iastore, x_bastore, x_lastore, x_aastore, x_arraylength, x_newarray, x_anewarray, x_new, x_iload_0, x_iload_1, x_iload_2, x_iload_3, x_lload_0, x_lload_1, x_lload_2, x_lload_3, x_aload_0, x_aload_1, x_aload_2, x_aload_3, x_istore_0, x_istore_1, x_istore_2, x_istore_3, x_lstore_0, x_lstore_1, x_lstore_2, x_lstore_3, x_astore_0, x_astore_1, x_astore_2, x_astore_3, q_bipush_m3, q_bipush_m2, q_bipush_6, q_bipush_7, q_bipush_9, q_bipush_10, q_bipush_24, q_bipush_30, q_bipush_48, q_bipush_100, q_sipush_300, q_sipush_1000, q_sipush_24001, q_l0, q_l1, xtc_0_0, xtc_0_1, xtc_0_2, xtc_0_3, xtc_0_4, xtc_0_5, xtc_1_0, xtc_1_1, xtc_1_2, xtc_2_0, xtc_2_1, xtc_3_0, xtc_4_0, xtc_4_1, xtc_4_2, xtc_4_3, xtc_4_4, xtc_4_5, xtc_4_6, xtc_4_7, xtc_4_8, xtc_4_9, xtc_4_10, xtc_4_11, xtc_4_12, xtc_5_0, xtc_5_1, xtc_5_2, xtc_5_3, xtc_5_4, xtc_5_5, xtc_5_6, xtc_6_0, xtc_6_1, xtc_6_2, xtc_7_0, xtc_7_1, xtc_8_0, xtc_8_1, xtc_8_2, xtc_8_3, xtc_9_0, xtc_9_1, xtc_9_2, xtc_9_3, xtc_9_4, xtc_9_5, xtc_9_6, xtc_9_7, xtc_9_8, xtc_9_9, xtc_10_0, xtc_10_1, xtc_10_2, xtc_10_3, xtc_10_4, xtc_10_5, xtc_10_6, xtc_10_7, xtc_10_8, xtc_10_9, xtc_10_10, xtc_10_11, xtc_10_12, xtc_10_13, xtc_10_14, xtc_10_15, xtc_10_16, xtc_10_17, xtc_10_18, xtc_10_19, xtc_10_20, xtc_10_21, xtc_10_22, xtc_10_23, xtc_10_24, xtc_10_25, eq_self, reduceIte, Nat.reduceEqDiff, Nat.reduceAdd, Nat.reduceSub, Nat.zero_ne_one, Nat.one_ne_zero, Nat.succ_ne_zero, Nat.reduceLeDiff, reduceCtorEq, and_true, true_and, and_false, false_and, true_implies, false_implies, implies_true, not_true_eq_false, not_false_eq_true, xN_0, xN_s, xlook_c, xlook_n, xb_nil, xb_cons, xlen, xl_cons, xst_def, xst2_def, xdl_nil, xdl_int, xdl_ref, xdl_long, xrv_some, xfit_int, xfit_long, xfit_ref, cat_int, cat_ref, cat_long, xret_int, xret_bool, or_true, true_or, Option.some.injEq, Value.int.injEq, Value.ref.injEq, Value.long.injEq, List.getElem?_cons_zero, List.getElem?_cons_succ, List.set_cons_zero, List.set_cons_succ, List.length_cons, List.length_nil, xup_xup, Classical.not_not, Nat.reduceLT, Nat.zero_lt_succ, hO, n1, xup_self, xup_ne, ne_eq, I_add]
  simp (disch := omega) only [I_lt]
  refine ⟨fun h => Or.inr ⟨by omega, ?_, ?_⟩, fun h => Or.inl (by omega)⟩
  · simp only [NetAt, putNode, xup_self, xup_ne, ne_eq, Nat.reduceEqDiff, not_false_eq_true, n2, n3, n4, n5, n6, n7, n8, n9]
    simp
    rfl
  · intro q hq
    simp only [xup]
    repeat rw [if_neg (by omega)]
theorem w_arc (hO : ObjAt ws pv) (hN : NetAt ws S ver wv) (hw : WF S) (hd : 2 ≤ d) {a b c k : Int} (h1 : -2147483648 ≤ a) (h2 : a < 2147483648) (h3 : -2147483648 ≤ b) (h4 : b < 2147483648) (h5 : -2147483648 ≤ c) (h6 : c < 2147483648) (h7 : -2147483648 ≤ k) (h8 : k < 2147483648) : xM l tX9_arc d 0 0 [.ref 0, .int (I a), .int (I b), .int (I c), .int (I k)] n ws (fun r n' ws' => n' = n ∧ ((¬ okArc S a b c k ∧ r = some (.int (I (-2))) ∧ ws' = ws) ∨ (okArc S a b c k ∧ S.na = 24 ∧ r = some (.int (I (-3))) ∧ ws' = ws) ∨ (okArc S a b c k ∧ S.na < 24 ∧ r = some (.int (I S.na)) ∧ NetAt ws' (putArc S a b c k) (ver + 1) (wv + 1) ∧ ∀ q, 10 ≤ q ∨ q = 0 → ws' q = ws q))) := by
  have hN0 := hN
  obtain ⟨n1, n2, n3, n4, n5, n6, n7, n8, n9⟩ := hN
  have hb1 : S.nn ≤ 10 := hw.1
  have hb2 : S.na ≤ 24 := hw.2.1
  unfold ObjAt at hO
  refine xM.of (by decide) (Nat.le_of_ble_eq_true rfl) ?_
  simp only [lv_args, cat_int, cat_ref, cat_long, reduceIte, Nat.reduceEqDiff, Nat.reduceAdd, Nat.one_ne_zero, Nat.reduceLeDiff]
  refine xN_ok (t := tX9_arc) rfl (T := AX9_arc) aX9_arc 1 _ _ _ _ _ _ _ ?_
  simp only [AX9_arc, oX9_arc_0, oX9_arc_9, oX9_arc_20, oX9_arc_31, oX9_arc_34, oX9_arc_37, oX9_arc_52, oX9_arc_64, rX9_arc, x_iconst, x_bipush, x_sipush, x_lconst, x_iload, x_lload, x_aload, x_istore, x_lstore, x_astore, x_iinc, x_iadd, x_isub, x_imul, x_iand, x_ior, x_ixor, x_ishl, x_ishr, x_ineg, x_ladd, x_lsub, x_lmul, x_ldiv, x_lrem, x_lcmp, x_i2l, x_l2i, x_dup, x_dup_x1, x_dup2, x_if_eq, x_if_ne, x_if_lt, x_if_ge, x_if_gt, x_if_le, x_ic_eq, x_ic_ne, x_ic_lt, x_ic_ge, x_ic_gt, x_ic_le, x_goto, x_ireturn, x_lreturn, x_return, x_getfield, x_putfield, x_iaload, x_baload, x_laload, x_aaload, x_iastore, x_bastore, x_lastore, x_aastore, x_arraylength, x_newarray, x_anewarray, x_new, x_iload_0, x_iload_1, x_iload_2, x_iload_3, x_lload_0, x_lload_1, x_lload_2, x_lload_3, x_aload_0, x_aload_1, x_aload_2, x_aload_3, x_istore_0, x_istore_1, x_istore_2, x_istore_3, x_lstore_0, x_lstore_1, x_lstore_2, x_lstore_3, x_astore_0, x_astore_1, x_astore_2, x_astore_3, q_bipush_m3, q_bipush_m2, q_bipush_6, q_bipush_7, q_bipush_9, q_bipush_10, q_bipush_24, q_bipush_30, q_bipush_48, q_bipush_100, q_sipush_300, q_sipush_1000, q_sipush_24001, q_l0, q_l1, xtc_0_0, xtc_0_1, xtc_0_2, xtc_0_3, xtc_0_4, xtc_0_5, xtc_1_0, xtc_1_1, xtc_1_2, xtc_2_0, xtc_2_1, xtc_3_0, xtc_4_0, xtc_4_1, xtc_4_2, xtc_4_3, xtc_4_4, xtc_4_5, xtc_4_6, xtc_4_7, xtc_4_8, xtc_4_9, xtc_4_10, xtc_4_11, xtc_4_12, xtc_5_0, xtc_5_1, xtc_5_2, xtc_5_3, xtc_5_4, xtc_5_5, xtc_5_6, xtc_6_0, xtc_6_1, xtc_6_2, xtc_7_0, xtc_7_1, xtc_8_0, xtc_8_1, xtc_8_2, xtc_8_3, xtc_9_0, xtc_9_1, xtc_9_2, xtc_9_3, xtc_9_4, xtc_9_5, xtc_9_6, xtc_9_7, xtc_9_8, xtc_9_9, xtc_10_0, xtc_10_1, xtc_10_2, xtc_10_3, xtc_10_4, xtc_10_5, xtc_10_6, xtc_10_7, xtc_10_8, xtc_10_9, xtc_10_10, xtc_10_11, xtc_10_12, xtc_10_13, xtc_10_14, xtc_10_15, xtc_10_16, xtc_10_17, xtc_10_18, xtc_10_19, xtc_10_20, xtc_10_21, xtc_10_22, xtc_10_23, xtc_10_24, xtc_10_25, eq_self, reduceIte, Nat.reduceEqDiff, Nat.reduceAdd, Nat.reduceSub, Nat.zero_ne_one, Nat.one_ne_zero, Nat.succ_ne_zero, Nat.reduceLeDiff, reduceCtorEq, and_true, true_and, and_false, false_and, true_implies, false_implies, implies_true, not_true_eq_false, not_false_eq_true, xN_0, xN_s, xlook_c, xlook_n, xb_nil, xb_cons, xlen, xl_cons, xst_def, xst2_def, xdl_nil, xdl_int, xdl_ref, xdl_long, xrv_some, xfit_int, xfit_long, xfit_ref, cat_int, cat_ref, cat_long, xret_int, xret_bool, or_true, true_or, Option.some.injEq, Value.int.injEq, Value.ref.injEq, Value.long.injEq, List.getElem?_cons_zero, List.getElem?_cons_succ, List.set_cons_zero, List.set_cons_succ, List.length_cons, List.length_nil, xup_xup, Classical.not_not, Nat.reduceLT, Nat.zero_lt_succ, hO]
  refine cX9_arc_6 n1 (dc := 1) (cc := 0) (cs := 0) (by omega) (by omega) (by omega) (Nat.le_of_ble_eq_true rfl) (w_areTwoNodes hN0 (by omega) (by omega) h1 h2 h3 h4) (pureQ ?_)
  simp only [Option.toList_some, Option.toList_none, List.cons_append, List.nil_append, Nat.sub_zero, Nat.reduceSub, Nat.sub_self]
  refine xN_ok (t := tX9_arc) rfl (T := AX9_arc) aX9_arc 2 _ _ _ _ _ _ _ ?_
  simp only [AX9_arc, oX9_arc_0, oX9_arc_9, oX9_arc_20, oX9_arc_31, oX9_arc_34, oX9_arc_37, oX9_arc_52, oX9_arc_64, rX9_arc, x_iconst, x_bipush, x_sipush, x_lconst, x_iload, x_lload, x_aload, x_istore, x_lstore, x_astore, x_iinc, x_iadd, x_isub, x_imul, x_iand, x_ior, x_ixor, x_ishl, x_ishr, x_ineg, x_ladd, x_lsub, x_lmul, x_ldiv, x_lrem, x_lcmp, x_i2l, x_l2i, x_dup, x_dup_x1, x_dup2, x_if_eq, x_if_ne, x_if_lt, x_if_ge, x_if_gt, x_if_le, x_ic_eq, x_ic_ne, x_ic_lt, x_ic_ge, x_ic_gt, x_ic_le, x_goto, x_ireturn, x_lreturn, x_return, x_getfield, x_putfield, x_iaload, x_baload, x_laload, x_aaload, x_iastore, x_bastore, x_lastore, x_aastore, x_arraylength, x_newarray, x_anewarray, x_new, x_iload_0, x_iload_1, x_iload_2, x_iload_3, x_lload_0, x_lload_1, x_lload_2, x_lload_3, x_aload_0, x_aload_1, x_aload_2, x_aload_3, x_istore_0, x_istore_1, x_istore_2, x_istore_3, x_lstore_0, x_lstore_1, x_lstore_2, x_lstore_3, x_astore_0, x_astore_1, x_astore_2, x_astore_3, q_bipush_m3, q_bipush_m2, q_bipush_6, q_bipush_7, q_bipush_9, q_bipush_10, q_bipush_24, q_bipush_30, q_bipush_48, q_bipush_100, q_sipush_300, q_sipush_1000, q_sipush_24001, q_l0, q_l1, xtc_0_0, xtc_0_1, xtc_0_2, xtc_0_3, xtc_0_4, xtc_0_5, xtc_1_0, xtc_1_1, xtc_1_2, xtc_2_0, xtc_2_1, xtc_3_0, xtc_4_0, xtc_4_1, xtc_4_2, xtc_4_3, xtc_4_4, xtc_4_5, xtc_4_6, xtc_4_7, xtc_4_8, xtc_4_9, xtc_4_10, xtc_4_11, xtc_4_12, xtc_5_0, xtc_5_1, xtc_5_2, xtc_5_3, xtc_5_4, xtc_5_5, xtc_5_6, xtc_6_0, xtc_6_1, xtc_6_2, xtc_7_0, xtc_7_1, xtc_8_0, xtc_8_1, xtc_8_2, xtc_8_3, xtc_9_0, xtc_9_1, xtc_9_2, xtc_9_3, xtc_9_4, xtc_9_5, xtc_9_6, xtc_9_7, xtc_9_8, xtc_9_9, xtc_10_0, xtc_10_1, xtc_10_2, xtc_10_3, xtc_10_4, xtc_10_5, xtc_10_6, xtc_10_7, xtc_10_8, xtc_10_9, xtc_10_10, xtc_10_11, xtc_10_12, xtc_10_13, xtc_10_14, xtc_10_15, xtc_10_16, xtc_10_17, xtc_10_18, xtc_10_19, xtc_10_20, xtc_10_21, xtc_10_22, xtc_10_23, xtc_10_24, xtc_10_25, eq_self, reduceIte, Nat.reduceEqDiff, Nat.reduceAdd, Nat.reduceSub, Nat.zero_ne_one, Nat.one_ne_zero, Nat.succ_ne_zero, Nat.reduceLeDiff, reduceCtorEq, and_true, true_and, and_false, false_and, true_implies, false_implies, implies_true, not_true_eq_false, not_false_eq_true, xN_0, xN_s, xlook_c, xlook_n, xb_nil, xb_cons, xlen, xl_cons, xst_def, xst2_def, xdl_nil, xdl_int, xdl_ref, xdl_long, xrv_some, xfit_int, xfit_long, xfit_ref, cat_int, cat_ref, cat_long, xret_int, xret_bool, or_true, true_or, Option.some.injEq, Value.int.injEq, Value.ref.injEq, Value.long.injEq, List.getElem?_cons_zero, List.getElem?_cons_succ, List.set_cons_zero, List.set_cons_succ, List.length_cons, List.length_nil, xup_xup, Classical.not_not, Nat.reduceLT, Nat.zero_lt_succ, I_b0]
  refine ⟨fun e => Or.inl (fun q => e q.1), fun e => ?_⟩
  refine cX9_arc_17 (dc := 0) (cc := 0) (cs := 0) (by omega) (by omega) (by omega) (Nat.le_of_ble_eq_true rfl) (w_isWithin l 0 _ _ (by omega) (by omega) (by omega) (by omega) (by omega) (by omega)) (pureQ ?_)
  simp only [Option.toList_some, Option.toList_none, List.cons_append, List.nil_append, Nat.sub_zero, Nat.reduceSub, Nat.sub_self]
  refine xN_ok (t := tX9_arc) rfl (T := AX9_arc) aX9_arc 2 _ _ _ _ _ _ _ ?_
  simp only [AX9_arc, oX9_arc_0, oX9_arc_9, oX9_arc_20, oX9_arc_31, oX9_arc_34, oX9_arc_37, oX9_arc_52, oX9_arc_64, rX9_arc, x_iconst, x_bipush, x_sipush, x_lconst, x_iload, x_lload, x_aload, x_istore, x_lstore, x_astore, x_iinc, x_iadd, x_isub, x_imul, x_iand, x_ior, x_ixor, x_ishl, x_ishr, x_ineg, x_ladd, x_lsub, x_lmul, x_ldiv, x_lrem, x_lcmp, x_i2l, x_l2i, x_dup, x_dup_x1, x_dup2, x_if_eq, x_if_ne, x_if_lt, x_if_ge, x_if_gt, x_if_le, x_ic_eq, x_ic_ne, x_ic_lt, x_ic_ge, x_ic_gt, x_ic_le, x_goto, x_ireturn, x_lreturn, x_return, x_getfield, x_putfield, x_iaload, x_baload, x_laload, x_aaload, x_iastore, x_bastore, x_lastore, x_aastore, x_arraylength, x_newarray, x_anewarray, x_new, x_iload_0, x_iload_1, x_iload_2, x_iload_3, x_lload_0, x_lload_1, x_lload_2, x_lload_3, x_aload_0, x_aload_1, x_aload_2, x_aload_3, x_istore_0, x_istore_1, x_istore_2, x_istore_3, x_lstore_0, x_lstore_1, x_lstore_2, x_lstore_3, x_astore_0, x_astore_1, x_astore_2, x_astore_3, q_bipush_m3, q_bipush_m2, q_bipush_6, q_bipush_7, q_bipush_9, q_bipush_10, q_bipush_24, q_bipush_30, q_bipush_48, q_bipush_100, q_sipush_300, q_sipush_1000, q_sipush_24001, q_l0, q_l1, xtc_0_0, xtc_0_1, xtc_0_2, xtc_0_3, xtc_0_4, xtc_0_5, xtc_1_0, xtc_1_1, xtc_1_2, xtc_2_0, xtc_2_1, xtc_3_0, xtc_4_0, xtc_4_1, xtc_4_2, xtc_4_3, xtc_4_4, xtc_4_5, xtc_4_6, xtc_4_7, xtc_4_8, xtc_4_9, xtc_4_10, xtc_4_11, xtc_4_12, xtc_5_0, xtc_5_1, xtc_5_2, xtc_5_3, xtc_5_4, xtc_5_5, xtc_5_6, xtc_6_0, xtc_6_1, xtc_6_2, xtc_7_0, xtc_7_1, xtc_8_0, xtc_8_1, xtc_8_2, xtc_8_3, xtc_9_0, xtc_9_1, xtc_9_2, xtc_9_3, xtc_9_4, xtc_9_5, xtc_9_6, xtc_9_7, xtc_9_8, xtc_9_9, xtc_10_0, xtc_10_1, xtc_10_2, xtc_10_3, xtc_10_4, xtc_10_5, xtc_10_6, xtc_10_7, xtc_10_8, xtc_10_9, xtc_10_10, xtc_10_11, xtc_10_12, xtc_10_13, xtc_10_14, xtc_10_15, xtc_10_16, xtc_10_17, xtc_10_18, xtc_10_19, xtc_10_20, xtc_10_21, xtc_10_22, xtc_10_23, xtc_10_24, xtc_10_25, eq_self, reduceIte, Nat.reduceEqDiff, Nat.reduceAdd, Nat.reduceSub, Nat.zero_ne_one, Nat.one_ne_zero, Nat.succ_ne_zero, Nat.reduceLeDiff, reduceCtorEq, and_true, true_and, and_false, false_and, true_implies, false_implies, implies_true, not_true_eq_false, not_false_eq_true, xN_0, xN_s, xlook_c, xlook_n, xb_nil, xb_cons, xlen, xl_cons, xst_def, xst2_def, xdl_nil, xdl_int, xdl_ref, xdl_long, xrv_some, xfit_int, xfit_long, xfit_ref, cat_int, cat_ref, cat_long, xret_int, xret_bool, or_true, true_or, Option.some.injEq, Value.int.injEq, Value.ref.injEq, Value.long.injEq, List.getElem?_cons_zero, List.getElem?_cons_succ, List.set_cons_zero, List.set_cons_succ, List.length_cons, List.length_nil, xup_xup, Classical.not_not, Nat.reduceLT, Nat.zero_lt_succ, I_b0]
  refine ⟨fun e1 => Or.inl (fun q => e1 q.2.1), fun e1 => ?_⟩
  refine cX9_arc_28 (dc := 0) (cc := 0) (cs := 0) (by omega) (by omega) (by omega) (Nat.le_of_ble_eq_true rfl) (w_isWithin l 0 _ _ (by omega) (by omega) (by omega) (by omega) (by omega) (by omega)) (pureQ ?_)
  simp only [Option.toList_some, Option.toList_none, List.cons_append, List.nil_append, Nat.sub_zero, Nat.reduceSub, Nat.sub_self]
  refine xN_ok (t := tX9_arc) rfl (T := AX9_arc) aX9_arc 3 _ _ _ _ _ _ _ ?_
  simp only [AX9_arc, oX9_arc_0, oX9_arc_9, oX9_arc_20, oX9_arc_31, oX9_arc_34, oX9_arc_37, oX9_arc_52, oX9_arc_64, rX9_arc, x_iconst, x_bipush, x_sipush, x_lconst, x_iload, x_lload, x_aload, x_istore, x_lstore, x_astore, x_iinc, x_iadd, x_isub, x_imul, x_iand, x_ior, x_ixor, x_ishl, x_ishr, x_ineg, x_ladd, x_lsub, x_lmul, x_ldiv, x_lrem, x_lcmp, x_i2l, x_l2i, x_dup, x_dup_x1, x_dup2, x_if_eq, x_if_ne, x_if_lt, x_if_ge, x_if_gt, x_if_le, x_ic_eq, x_ic_ne, x_ic_lt, x_ic_ge, x_ic_gt, x_ic_le, x_goto, x_ireturn, x_lreturn, x_return, x_getfield, x_putfield, x_iaload, x_baload, x_laload, x_aaload, x_iastore, x_bastore, x_lastore, x_aastore, x_arraylength, x_newarray, x_anewarray, x_new, x_iload_0, x_iload_1, x_iload_2, x_iload_3, x_lload_0, x_lload_1, x_lload_2, x_lload_3, x_aload_0, x_aload_1, x_aload_2, x_aload_3, x_istore_0, x_istore_1, x_istore_2, x_istore_3, x_lstore_0, x_lstore_1, x_lstore_2, x_lstore_3, x_astore_0, x_astore_1, x_astore_2, x_astore_3, q_bipush_m3, q_bipush_m2, q_bipush_6, q_bipush_7, q_bipush_9, q_bipush_10, q_bipush_24, q_bipush_30, q_bipush_48, q_bipush_100, q_sipush_300, q_sipush_1000, q_sipush_24001, q_l0, q_l1, xtc_0_0, xtc_0_1, xtc_0_2, xtc_0_3, xtc_0_4, xtc_0_5, xtc_1_0, xtc_1_1, xtc_1_2, xtc_2_0, xtc_2_1, xtc_3_0, xtc_4_0, xtc_4_1, xtc_4_2, xtc_4_3, xtc_4_4, xtc_4_5, xtc_4_6, xtc_4_7, xtc_4_8, xtc_4_9, xtc_4_10, xtc_4_11, xtc_4_12, xtc_5_0, xtc_5_1, xtc_5_2, xtc_5_3, xtc_5_4, xtc_5_5, xtc_5_6, xtc_6_0, xtc_6_1, xtc_6_2, xtc_7_0, xtc_7_1, xtc_8_0, xtc_8_1, xtc_8_2, xtc_8_3, xtc_9_0, xtc_9_1, xtc_9_2, xtc_9_3, xtc_9_4, xtc_9_5, xtc_9_6, xtc_9_7, xtc_9_8, xtc_9_9, xtc_10_0, xtc_10_1, xtc_10_2, xtc_10_3, xtc_10_4, xtc_10_5, xtc_10_6, xtc_10_7, xtc_10_8, xtc_10_9, xtc_10_10, xtc_10_11, xtc_10_12, xtc_10_13, xtc_10_14, xtc_10_15, xtc_10_16, xtc_10_17, xtc_10_18, xtc_10_19, xtc_10_20, xtc_10_21, xtc_10_22, xtc_10_23, xtc_10_24, xtc_10_25, eq_self, reduceIte, Nat.reduceEqDiff, Nat.reduceAdd, Nat.reduceSub, Nat.zero_ne_one, Nat.one_ne_zero, Nat.succ_ne_zero, Nat.reduceLeDiff, reduceCtorEq, and_true, true_and, and_false, false_and, true_implies, false_implies, implies_true, not_true_eq_false, not_false_eq_true, xN_0, xN_s, xlook_c, xlook_n, xb_nil, xb_cons, xlen, xl_cons, xst_def, xst2_def, xdl_nil, xdl_int, xdl_ref, xdl_long, xrv_some, xfit_int, xfit_long, xfit_ref, cat_int, cat_ref, cat_long, xret_int, xret_bool, or_true, true_or, Option.some.injEq, Value.int.injEq, Value.ref.injEq, Value.long.injEq, List.getElem?_cons_zero, List.getElem?_cons_succ, List.set_cons_zero, List.set_cons_succ, List.length_cons, List.length_nil, xup_xup, Classical.not_not, Nat.reduceLT, Nat.zero_lt_succ, I_b0, hO, n1]
  simp (disch := omega) only [I_lt]
  refine ⟨fun e2 => ⟨fun e3 => ?_, fun e3 => Or.inr (Or.inl ⟨⟨e, e1, e2⟩, by omega⟩)⟩, fun e2 => Or.inl (fun q => e2 q.2.2)⟩
  refine cX9_arc_61 n1 (dc := 0) (cc := 0) (cs := 0) (by omega) (by omega) (by omega) (Nat.le_of_ble_eq_true rfl) (w_addArc hN0 (by omega)) ?_
  rintro r n1 ws1 ⟨rfl, rfl, q1, q2⟩
  simp only [Option.toList_some, Option.toList_none, List.cons_append, List.nil_append, Nat.sub_zero, Nat.reduceSub, Nat.sub_self]
  refine xN_ok (t := tX9_arc) rfl (T := AX9_arc) aX9_arc 1 _ _ _ _ _ _ _ ?_
  simp only [AX9_arc, oX9_arc_0, oX9_arc_9, oX9_arc_20, oX9_arc_31, oX9_arc_34, oX9_arc_37, oX9_arc_52, oX9_arc_64, rX9_arc, x_iconst, x_bipush, x_sipush, x_lconst, x_iload, x_lload, x_aload, x_istore, x_lstore, x_astore, x_iinc, x_iadd, x_isub, x_imul, x_iand, x_ior, x_ixor, x_ishl, x_ishr, x_ineg, x_ladd, x_lsub, x_lmul, x_ldiv, x_lrem, x_lcmp, x_i2l, x_l2i, x_dup, x_dup_x1, x_dup2, x_if_eq, x_if_ne, x_if_lt, x_if_ge, x_if_gt, x_if_le, x_ic_eq, x_ic_ne, x_ic_lt, x_ic_ge, x_ic_gt, x_ic_le, x_goto, x_ireturn, x_lreturn, x_return, x_getfield, x_putfield, x_iaload, x_baload, x_laload, x_aaload, x_iastore, x_bastore, x_lastore, x_aastore, x_arraylength, x_newarray, x_anewarray, x_new, x_iload_0, x_iload_1, x_iload_2, x_iload_3, x_lload_0, x_lload_1, x_lload_2, x_lload_3, x_aload_0, x_aload_1, x_aload_2, x_aload_3, x_istore_0, x_istore_1, x_istore_2, x_istore_3, x_lstore_0, x_lstore_1, x_lstore_2, x_lstore_3, x_astore_0, x_astore_1, x_astore_2, x_astore_3, q_bipush_m3, q_bipush_m2, q_bipush_6, q_bipush_7, q_bipush_9, q_bipush_10, q_bipush_24, q_bipush_30, q_bipush_48, q_bipush_100, q_sipush_300, q_sipush_1000, q_sipush_24001, q_l0, q_l1, xtc_0_0, xtc_0_1, xtc_0_2, xtc_0_3, xtc_0_4, xtc_0_5, xtc_1_0, xtc_1_1, xtc_1_2, xtc_2_0, xtc_2_1, xtc_3_0, xtc_4_0, xtc_4_1, xtc_4_2, xtc_4_3, xtc_4_4, xtc_4_5, xtc_4_6, xtc_4_7, xtc_4_8, xtc_4_9, xtc_4_10, xtc_4_11, xtc_4_12, xtc_5_0, xtc_5_1, xtc_5_2, xtc_5_3, xtc_5_4, xtc_5_5, xtc_5_6, xtc_6_0, xtc_6_1, xtc_6_2, xtc_7_0, xtc_7_1, xtc_8_0, xtc_8_1, xtc_8_2, xtc_8_3, xtc_9_0, xtc_9_1, xtc_9_2, xtc_9_3, xtc_9_4, xtc_9_5, xtc_9_6, xtc_9_7, xtc_9_8, xtc_9_9, xtc_10_0, xtc_10_1, xtc_10_2, xtc_10_3, xtc_10_4, xtc_10_5, xtc_10_6, xtc_10_7, xtc_10_8, xtc_10_9, xtc_10_10, xtc_10_11, xtc_10_12, xtc_10_13, xtc_10_14, xtc_10_15, xtc_10_16, xtc_10_17, xtc_10_18, xtc_10_19, xtc_10_20, xtc_10_21, xtc_10_22, xtc_10_23, xtc_10_24, xtc_10_25, eq_self, reduceIte, Nat.reduceEqDiff, Nat.reduceAdd, Nat.reduceSub, Nat.zero_ne_one, Nat.one_ne_zero, Nat.succ_ne_zero, Nat.reduceLeDiff, reduceCtorEq, and_true, true_and, and_false, false_and, true_implies, false_implies, implies_true, not_true_eq_false, not_false_eq_true, xN_0, xN_s, xlook_c, xlook_n, xb_nil, xb_cons, xlen, xl_cons, xst_def, xst2_def, xdl_nil, xdl_int, xdl_ref, xdl_long, xrv_some, xfit_int, xfit_long, xfit_ref, cat_int, cat_ref, cat_long, xret_int, xret_bool, or_true, true_or, Option.some.injEq, Value.int.injEq, Value.ref.injEq, Value.long.injEq, List.getElem?_cons_zero, List.getElem?_cons_succ, List.set_cons_zero, List.set_cons_succ, List.length_cons, List.length_nil, xup_xup, Classical.not_not, Nat.reduceLT, Nat.zero_lt_succ]
  exact Or.inr (Or.inr ⟨⟨e, e1, e2⟩, by omega, q1, q2⟩)
theorem w_good (hO : ObjAt ws pv) (hN : NetAt ws S ver wv) (hw : WF S) (hd : 2 ≤ d) {a b c k : Int} (h1 : -2147483648 ≤ a) (h2 : a < 2147483648) (h3 : -2147483648 ≤ b) (h4 : b < 2147483648) (h5 : -2147483648 ≤ c) (h6 : c < 2147483648) (h7 : -2147483648 ≤ k) (h8 : k < 2147483648) : xM l tX9_good d 0 0 [.ref 0, .int (I a), .int (I b), .int (I c), .int (I k)] n ws (fun r n' ws' => n' = n ∧ ((¬ okGood S a b c k ∧ r = some (.int (I (-2))) ∧ ws' = ws) ∨ (okGood S a b c k ∧ S.ng = 6 ∧ r = some (.int (I (-3))) ∧ ws' = ws) ∨ (okGood S a b c k ∧ S.ng < 6 ∧ r = some (.int (I S.ng)) ∧ NetAt ws' (putGood S a b c k) (ver + 1) (wv + 1) ∧ ∀ q, 10 ≤ q ∨ q = 0 → ws' q = ws q))) := by
  have hN0 := hN
  obtain ⟨n1, n2, n3, n4, n5, n6, n7, n8, n9⟩ := hN
  have hb1 : S.nn ≤ 10 := hw.1
  have hb2 : S.ng ≤ 6 := hw.2.2.1
  unfold ObjAt at hO
  refine xM.of (by decide) (Nat.le_of_ble_eq_true rfl) ?_
  simp only [lv_args, cat_int, cat_ref, cat_long, reduceIte, Nat.reduceEqDiff, Nat.reduceAdd, Nat.one_ne_zero, Nat.reduceLeDiff]
  refine xN_ok (t := tX9_good) rfl (T := AX9_good) aX9_good 1 _ _ _ _ _ _ _ ?_
  simp only [AX9_good, oX9_good_0, oX9_good_9, oX9_good_20, oX9_good_32, oX9_good_35, oX9_good_38, oX9_good_53, oX9_good_65, rX9_good, x_iconst, x_bipush, x_sipush, x_lconst, x_iload, x_lload, x_aload, x_istore, x_lstore, x_astore, x_iinc, x_iadd, x_isub, x_imul, x_iand, x_ior, x_ixor, x_ishl, x_ishr, x_ineg, x_ladd, x_lsub, x_lmul, x_ldiv, x_lrem, x_lcmp, x_i2l, x_l2i, x_dup, x_dup_x1, x_dup2, x_if_eq, x_if_ne, x_if_lt, x_if_ge, x_if_gt, x_if_le, x_ic_eq, x_ic_ne, x_ic_lt, x_ic_ge, x_ic_gt, x_ic_le, x_goto, x_ireturn, x_lreturn, x_return, x_getfield, x_putfield, x_iaload, x_baload, x_laload, x_aaload, x_iastore, x_bastore, x_lastore, x_aastore, x_arraylength, x_newarray, x_anewarray, x_new, x_iload_0, x_iload_1, x_iload_2, x_iload_3, x_lload_0, x_lload_1, x_lload_2, x_lload_3, x_aload_0, x_aload_1, x_aload_2, x_aload_3, x_istore_0, x_istore_1, x_istore_2, x_istore_3, x_lstore_0, x_lstore_1, x_lstore_2, x_lstore_3, x_astore_0, x_astore_1, x_astore_2, x_astore_3, q_bipush_m3, q_bipush_m2, q_bipush_6, q_bipush_7, q_bipush_9, q_bipush_10, q_bipush_24, q_bipush_30, q_bipush_48, q_bipush_100, q_sipush_300, q_sipush_1000, q_sipush_24001, q_l0, q_l1, xtc_0_0, xtc_0_1, xtc_0_2, xtc_0_3, xtc_0_4, xtc_0_5, xtc_1_0, xtc_1_1, xtc_1_2, xtc_2_0, xtc_2_1, xtc_3_0, xtc_4_0, xtc_4_1, xtc_4_2, xtc_4_3, xtc_4_4, xtc_4_5, xtc_4_6, xtc_4_7, xtc_4_8, xtc_4_9, xtc_4_10, xtc_4_11, xtc_4_12, xtc_5_0, xtc_5_1, xtc_5_2, xtc_5_3, xtc_5_4, xtc_5_5, xtc_5_6, xtc_6_0, xtc_6_1, xtc_6_2, xtc_7_0, xtc_7_1, xtc_8_0, xtc_8_1, xtc_8_2, xtc_8_3, xtc_9_0, xtc_9_1, xtc_9_2, xtc_9_3, xtc_9_4, xtc_9_5, xtc_9_6, xtc_9_7, xtc_9_8, xtc_9_9, xtc_10_0, xtc_10_1, xtc_10_2, xtc_10_3, xtc_10_4, xtc_10_5, xtc_10_6, xtc_10_7, xtc_10_8, xtc_10_9, xtc_10_10, xtc_10_11, xtc_10_12, xtc_10_13, xtc_10_14, xtc_10_15, xtc_10_16, xtc_10_17, xtc_10_18, xtc_10_19, xtc_10_20, xtc_10_21, xtc_10_22, xtc_10_23, xtc_10_24, xtc_10_25, eq_self, reduceIte, Nat.reduceEqDiff, Nat.reduceAdd, Nat.reduceSub, Nat.zero_ne_one, Nat.one_ne_zero, Nat.succ_ne_zero, Nat.reduceLeDiff, reduceCtorEq, and_true, true_and, and_false, false_and, true_implies, false_implies, implies_true, not_true_eq_false, not_false_eq_true, xN_0, xN_s, xlook_c, xlook_n, xb_nil, xb_cons, xlen, xl_cons, xst_def, xst2_def, xdl_nil, xdl_int, xdl_ref, xdl_long, xrv_some, xfit_int, xfit_long, xfit_ref, cat_int, cat_ref, cat_long, xret_int, xret_bool, or_true, true_or, Option.some.injEq, Value.int.injEq, Value.ref.injEq, Value.long.injEq, List.getElem?_cons_zero, List.getElem?_cons_succ, List.set_cons_zero, List.set_cons_succ, List.length_cons, List.length_nil, xup_xup, Classical.not_not, Nat.reduceLT, Nat.zero_lt_succ, hO]
  refine cX9_good_6 n1 (dc := 1) (cc := 0) (cs := 0) (by omega) (by omega) (by omega) (Nat.le_of_ble_eq_true rfl) (w_areTwoNodes hN0 (by omega) (by omega) h1 h2 h3 h4) (pureQ ?_)
  simp only [Option.toList_some, Option.toList_none, List.cons_append, List.nil_append, Nat.sub_zero, Nat.reduceSub, Nat.sub_self]
  refine xN_ok (t := tX9_good) rfl (T := AX9_good) aX9_good 2 _ _ _ _ _ _ _ ?_
  simp only [AX9_good, oX9_good_0, oX9_good_9, oX9_good_20, oX9_good_32, oX9_good_35, oX9_good_38, oX9_good_53, oX9_good_65, rX9_good, x_iconst, x_bipush, x_sipush, x_lconst, x_iload, x_lload, x_aload, x_istore, x_lstore, x_astore, x_iinc, x_iadd, x_isub, x_imul, x_iand, x_ior, x_ixor, x_ishl, x_ishr, x_ineg, x_ladd, x_lsub, x_lmul, x_ldiv, x_lrem, x_lcmp, x_i2l, x_l2i, x_dup, x_dup_x1, x_dup2, x_if_eq, x_if_ne, x_if_lt, x_if_ge, x_if_gt, x_if_le, x_ic_eq, x_ic_ne, x_ic_lt, x_ic_ge, x_ic_gt, x_ic_le, x_goto, x_ireturn, x_lreturn, x_return, x_getfield, x_putfield, x_iaload, x_baload, x_laload, x_aaload, x_iastore, x_bastore, x_lastore, x_aastore, x_arraylength, x_newarray, x_anewarray, x_new, x_iload_0, x_iload_1, x_iload_2, x_iload_3, x_lload_0, x_lload_1, x_lload_2, x_lload_3, x_aload_0, x_aload_1, x_aload_2, x_aload_3, x_istore_0, x_istore_1, x_istore_2, x_istore_3, x_lstore_0, x_lstore_1, x_lstore_2, x_lstore_3, x_astore_0, x_astore_1, x_astore_2, x_astore_3, q_bipush_m3, q_bipush_m2, q_bipush_6, q_bipush_7, q_bipush_9, q_bipush_10, q_bipush_24, q_bipush_30, q_bipush_48, q_bipush_100, q_sipush_300, q_sipush_1000, q_sipush_24001, q_l0, q_l1, xtc_0_0, xtc_0_1, xtc_0_2, xtc_0_3, xtc_0_4, xtc_0_5, xtc_1_0, xtc_1_1, xtc_1_2, xtc_2_0, xtc_2_1, xtc_3_0, xtc_4_0, xtc_4_1, xtc_4_2, xtc_4_3, xtc_4_4, xtc_4_5, xtc_4_6, xtc_4_7, xtc_4_8, xtc_4_9, xtc_4_10, xtc_4_11, xtc_4_12, xtc_5_0, xtc_5_1, xtc_5_2, xtc_5_3, xtc_5_4, xtc_5_5, xtc_5_6, xtc_6_0, xtc_6_1, xtc_6_2, xtc_7_0, xtc_7_1, xtc_8_0, xtc_8_1, xtc_8_2, xtc_8_3, xtc_9_0, xtc_9_1, xtc_9_2, xtc_9_3, xtc_9_4, xtc_9_5, xtc_9_6, xtc_9_7, xtc_9_8, xtc_9_9, xtc_10_0, xtc_10_1, xtc_10_2, xtc_10_3, xtc_10_4, xtc_10_5, xtc_10_6, xtc_10_7, xtc_10_8, xtc_10_9, xtc_10_10, xtc_10_11, xtc_10_12, xtc_10_13, xtc_10_14, xtc_10_15, xtc_10_16, xtc_10_17, xtc_10_18, xtc_10_19, xtc_10_20, xtc_10_21, xtc_10_22, xtc_10_23, xtc_10_24, xtc_10_25, eq_self, reduceIte, Nat.reduceEqDiff, Nat.reduceAdd, Nat.reduceSub, Nat.zero_ne_one, Nat.one_ne_zero, Nat.succ_ne_zero, Nat.reduceLeDiff, reduceCtorEq, and_true, true_and, and_false, false_and, true_implies, false_implies, implies_true, not_true_eq_false, not_false_eq_true, xN_0, xN_s, xlook_c, xlook_n, xb_nil, xb_cons, xlen, xl_cons, xst_def, xst2_def, xdl_nil, xdl_int, xdl_ref, xdl_long, xrv_some, xfit_int, xfit_long, xfit_ref, cat_int, cat_ref, cat_long, xret_int, xret_bool, or_true, true_or, Option.some.injEq, Value.int.injEq, Value.ref.injEq, Value.long.injEq, List.getElem?_cons_zero, List.getElem?_cons_succ, List.set_cons_zero, List.set_cons_succ, List.length_cons, List.length_nil, xup_xup, Classical.not_not, Nat.reduceLT, Nat.zero_lt_succ, I_b0]
  refine ⟨fun e => Or.inl (fun q => e q.1), fun e => ?_⟩
  refine cX9_good_17 (dc := 0) (cc := 0) (cs := 0) (by omega) (by omega) (by omega) (Nat.le_of_ble_eq_true rfl) (w_isWithin l 0 _ _ (by omega) (by omega) (by omega) (by omega) (by omega) (by omega)) (pureQ ?_)
  simp only [Option.toList_some, Option.toList_none, List.cons_append, List.nil_append, Nat.sub_zero, Nat.reduceSub, Nat.sub_self]
  refine xN_ok (t := tX9_good) rfl (T := AX9_good) aX9_good 2 _ _ _ _ _ _ _ ?_
  simp only [AX9_good, oX9_good_0, oX9_good_9, oX9_good_20, oX9_good_32, oX9_good_35, oX9_good_38, oX9_good_53, oX9_good_65, rX9_good, x_iconst, x_bipush, x_sipush, x_lconst, x_iload, x_lload, x_aload, x_istore, x_lstore, x_astore, x_iinc, x_iadd, x_isub, x_imul, x_iand, x_ior, x_ixor, x_ishl, x_ishr, x_ineg, x_ladd, x_lsub, x_lmul, x_ldiv, x_lrem, x_lcmp, x_i2l, x_l2i, x_dup, x_dup_x1, x_dup2, x_if_eq, x_if_ne, x_if_lt, x_if_ge, x_if_gt, x_if_le, x_ic_eq, x_ic_ne, x_ic_lt, x_ic_ge, x_ic_gt, x_ic_le, x_goto, x_ireturn, x_lreturn, x_return, x_getfield, x_putfield, x_iaload, x_baload, x_laload, x_aaload, x_iastore, x_bastore, x_lastore, x_aastore, x_arraylength, x_newarray, x_anewarray, x_new, x_iload_0, x_iload_1, x_iload_2, x_iload_3, x_lload_0, x_lload_1, x_lload_2, x_lload_3, x_aload_0, x_aload_1, x_aload_2, x_aload_3, x_istore_0, x_istore_1, x_istore_2, x_istore_3, x_lstore_0, x_lstore_1, x_lstore_2, x_lstore_3, x_astore_0, x_astore_1, x_astore_2, x_astore_3, q_bipush_m3, q_bipush_m2, q_bipush_6, q_bipush_7, q_bipush_9, q_bipush_10, q_bipush_24, q_bipush_30, q_bipush_48, q_bipush_100, q_sipush_300, q_sipush_1000, q_sipush_24001, q_l0, q_l1, xtc_0_0, xtc_0_1, xtc_0_2, xtc_0_3, xtc_0_4, xtc_0_5, xtc_1_0, xtc_1_1, xtc_1_2, xtc_2_0, xtc_2_1, xtc_3_0, xtc_4_0, xtc_4_1, xtc_4_2, xtc_4_3, xtc_4_4, xtc_4_5, xtc_4_6, xtc_4_7, xtc_4_8, xtc_4_9, xtc_4_10, xtc_4_11, xtc_4_12, xtc_5_0, xtc_5_1, xtc_5_2, xtc_5_3, xtc_5_4, xtc_5_5, xtc_5_6, xtc_6_0, xtc_6_1, xtc_6_2, xtc_7_0, xtc_7_1, xtc_8_0, xtc_8_1, xtc_8_2, xtc_8_3, xtc_9_0, xtc_9_1, xtc_9_2, xtc_9_3, xtc_9_4, xtc_9_5, xtc_9_6, xtc_9_7, xtc_9_8, xtc_9_9, xtc_10_0, xtc_10_1, xtc_10_2, xtc_10_3, xtc_10_4, xtc_10_5, xtc_10_6, xtc_10_7, xtc_10_8, xtc_10_9, xtc_10_10, xtc_10_11, xtc_10_12, xtc_10_13, xtc_10_14, xtc_10_15, xtc_10_16, xtc_10_17, xtc_10_18, xtc_10_19, xtc_10_20, xtc_10_21, xtc_10_22, xtc_10_23, xtc_10_24, xtc_10_25, eq_self, reduceIte, Nat.reduceEqDiff, Nat.reduceAdd, Nat.reduceSub, Nat.zero_ne_one, Nat.one_ne_zero, Nat.succ_ne_zero, Nat.reduceLeDiff, reduceCtorEq, and_true, true_and, and_false, false_and, true_implies, false_implies, implies_true, not_true_eq_false, not_false_eq_true, xN_0, xN_s, xlook_c, xlook_n, xb_nil, xb_cons, xlen, xl_cons, xst_def, xst2_def, xdl_nil, xdl_int, xdl_ref, xdl_long, xrv_some, xfit_int, xfit_long, xfit_ref, cat_int, cat_ref, cat_long, xret_int, xret_bool, or_true, true_or, Option.some.injEq, Value.int.injEq, Value.ref.injEq, Value.long.injEq, List.getElem?_cons_zero, List.getElem?_cons_succ, List.set_cons_zero, List.set_cons_succ, List.length_cons, List.length_nil, xup_xup, Classical.not_not, Nat.reduceLT, Nat.zero_lt_succ, I_b0]
  refine ⟨fun e1 => Or.inl (fun q => e1 q.2.1), fun e1 => ?_⟩
  refine cX9_good_29 (dc := 0) (cc := 0) (cs := 0) (by omega) (by omega) (by omega) (Nat.le_of_ble_eq_true rfl) (w_isWithin l 0 _ _ (by omega) (by omega) (by omega) (by omega) (by omega) (by omega)) (pureQ ?_)
  simp only [Option.toList_some, Option.toList_none, List.cons_append, List.nil_append, Nat.sub_zero, Nat.reduceSub, Nat.sub_self]
  refine xN_ok (t := tX9_good) rfl (T := AX9_good) aX9_good 3 _ _ _ _ _ _ _ ?_
  simp only [AX9_good, oX9_good_0, oX9_good_9, oX9_good_20, oX9_good_32, oX9_good_35, oX9_good_38, oX9_good_53, oX9_good_65, rX9_good, x_iconst, x_bipush, x_sipush, x_lconst, x_iload, x_lload, x_aload, x_istore, x_lstore, x_astore, x_iinc, x_iadd, x_isub, x_imul, x_iand, x_ior, x_ixor, x_ishl, x_ishr, x_ineg, x_ladd, x_lsub, x_lmul, x_ldiv, x_lrem, x_lcmp, x_i2l, x_l2i, x_dup, x_dup_x1, x_dup2, x_if_eq, x_if_ne, x_if_lt, x_if_ge, x_if_gt, x_if_le, x_ic_eq, x_ic_ne, x_ic_lt, x_ic_ge, x_ic_gt, x_ic_le, x_goto, x_ireturn, x_lreturn, x_return, x_getfield, x_putfield, x_iaload, x_baload, x_laload, x_aaload, x_iastore, x_bastore, x_lastore, x_aastore, x_arraylength, x_newarray, x_anewarray, x_new, x_iload_0, x_iload_1, x_iload_2, x_iload_3, x_lload_0, x_lload_1, x_lload_2, x_lload_3, x_aload_0, x_aload_1, x_aload_2, x_aload_3, x_istore_0, x_istore_1, x_istore_2, x_istore_3, x_lstore_0, x_lstore_1, x_lstore_2, x_lstore_3, x_astore_0, x_astore_1, x_astore_2, x_astore_3, q_bipush_m3, q_bipush_m2, q_bipush_6, q_bipush_7, q_bipush_9, q_bipush_10, q_bipush_24, q_bipush_30, q_bipush_48, q_bipush_100, q_sipush_300, q_sipush_1000, q_sipush_24001, q_l0, q_l1, xtc_0_0, xtc_0_1, xtc_0_2, xtc_0_3, xtc_0_4, xtc_0_5, xtc_1_0, xtc_1_1, xtc_1_2, xtc_2_0, xtc_2_1, xtc_3_0, xtc_4_0, xtc_4_1, xtc_4_2, xtc_4_3, xtc_4_4, xtc_4_5, xtc_4_6, xtc_4_7, xtc_4_8, xtc_4_9, xtc_4_10, xtc_4_11, xtc_4_12, xtc_5_0, xtc_5_1, xtc_5_2, xtc_5_3, xtc_5_4, xtc_5_5, xtc_5_6, xtc_6_0, xtc_6_1, xtc_6_2, xtc_7_0, xtc_7_1, xtc_8_0, xtc_8_1, xtc_8_2, xtc_8_3, xtc_9_0, xtc_9_1, xtc_9_2, xtc_9_3, xtc_9_4, xtc_9_5, xtc_9_6, xtc_9_7, xtc_9_8, xtc_9_9, xtc_10_0, xtc_10_1, xtc_10_2, xtc_10_3, xtc_10_4, xtc_10_5, xtc_10_6, xtc_10_7, xtc_10_8, xtc_10_9, xtc_10_10, xtc_10_11, xtc_10_12, xtc_10_13, xtc_10_14, xtc_10_15, xtc_10_16, xtc_10_17, xtc_10_18, xtc_10_19, xtc_10_20, xtc_10_21, xtc_10_22, xtc_10_23, xtc_10_24, xtc_10_25, eq_self, reduceIte, Nat.reduceEqDiff, Nat.reduceAdd, Nat.reduceSub, Nat.zero_ne_one, Nat.one_ne_zero, Nat.succ_ne_zero, Nat.reduceLeDiff, reduceCtorEq, and_true, true_and, and_false, false_and, true_implies, false_implies, implies_true, not_true_eq_false, not_false_eq_true, xN_0, xN_s, xlook_c, xlook_n, xb_nil, xb_cons, xlen, xl_cons, xst_def, xst2_def, xdl_nil, xdl_int, xdl_ref, xdl_long, xrv_some, xfit_int, xfit_long, xfit_ref, cat_int, cat_ref, cat_long, xret_int, xret_bool, or_true, true_or, Option.some.injEq, Value.int.injEq, Value.ref.injEq, Value.long.injEq, List.getElem?_cons_zero, List.getElem?_cons_succ, List.set_cons_zero, List.set_cons_succ, List.length_cons, List.length_nil, xup_xup, Classical.not_not, Nat.reduceLT, Nat.zero_lt_succ, I_b0, hO, n1]
  simp (disch := omega) only [I_lt]
  refine ⟨fun e2 => ⟨fun e3 => ?_, fun e3 => Or.inr (Or.inl ⟨⟨e, e1, e2⟩, by omega⟩)⟩, fun e2 => Or.inl (fun q => e2 q.2.2)⟩
  refine cX9_good_62 n1 (dc := 0) (cc := 0) (cs := 0) (by omega) (by omega) (by omega) (Nat.le_of_ble_eq_true rfl) (w_addGood hN0 (by omega)) ?_
  rintro r n1 ws1 ⟨rfl, rfl, q1, q2⟩
  simp only [Option.toList_some, Option.toList_none, List.cons_append, List.nil_append, Nat.sub_zero, Nat.reduceSub, Nat.sub_self]
  refine xN_ok (t := tX9_good) rfl (T := AX9_good) aX9_good 1 _ _ _ _ _ _ _ ?_
  simp only [AX9_good, oX9_good_0, oX9_good_9, oX9_good_20, oX9_good_32, oX9_good_35, oX9_good_38, oX9_good_53, oX9_good_65, rX9_good, x_iconst, x_bipush, x_sipush, x_lconst, x_iload, x_lload, x_aload, x_istore, x_lstore, x_astore, x_iinc, x_iadd, x_isub, x_imul, x_iand, x_ior, x_ixor, x_ishl, x_ishr, x_ineg, x_ladd, x_lsub, x_lmul, x_ldiv, x_lrem, x_lcmp, x_i2l, x_l2i, x_dup, x_dup_x1, x_dup2, x_if_eq, x_if_ne, x_if_lt, x_if_ge, x_if_gt, x_if_le, x_ic_eq, x_ic_ne, x_ic_lt, x_ic_ge, x_ic_gt, x_ic_le, x_goto, x_ireturn, x_lreturn, x_return, x_getfield, x_putfield, x_iaload, x_baload, x_laload, x_aaload, x_iastore, x_bastore, x_lastore, x_aastore, x_arraylength, x_newarray, x_anewarray, x_new, x_iload_0, x_iload_1, x_iload_2, x_iload_3, x_lload_0, x_lload_1, x_lload_2, x_lload_3, x_aload_0, x_aload_1, x_aload_2, x_aload_3, x_istore_0, x_istore_1, x_istore_2, x_istore_3, x_lstore_0, x_lstore_1, x_lstore_2, x_lstore_3, x_astore_0, x_astore_1, x_astore_2, x_astore_3, q_bipush_m3, q_bipush_m2, q_bipush_6, q_bipush_7, q_bipush_9, q_bipush_10, q_bipush_24, q_bipush_30, q_bipush_48, q_bipush_100, q_sipush_300, q_sipush_1000, q_sipush_24001, q_l0, q_l1, xtc_0_0, xtc_0_1, xtc_0_2, xtc_0_3, xtc_0_4, xtc_0_5, xtc_1_0, xtc_1_1, xtc_1_2, xtc_2_0, xtc_2_1, xtc_3_0, xtc_4_0, xtc_4_1, xtc_4_2, xtc_4_3, xtc_4_4, xtc_4_5, xtc_4_6, xtc_4_7, xtc_4_8, xtc_4_9, xtc_4_10, xtc_4_11, xtc_4_12, xtc_5_0, xtc_5_1, xtc_5_2, xtc_5_3, xtc_5_4, xtc_5_5, xtc_5_6, xtc_6_0, xtc_6_1, xtc_6_2, xtc_7_0, xtc_7_1, xtc_8_0, xtc_8_1, xtc_8_2, xtc_8_3, xtc_9_0, xtc_9_1, xtc_9_2, xtc_9_3, xtc_9_4, xtc_9_5, xtc_9_6, xtc_9_7, xtc_9_8, xtc_9_9, xtc_10_0, xtc_10_1, xtc_10_2, xtc_10_3, xtc_10_4, xtc_10_5, xtc_10_6, xtc_10_7, xtc_10_8, xtc_10_9, xtc_10_10, xtc_10_11, xtc_10_12, xtc_10_13, xtc_10_14, xtc_10_15, xtc_10_16, xtc_10_17, xtc_10_18, xtc_10_19, xtc_10_20, xtc_10_21, xtc_10_22, xtc_10_23, xtc_10_24, xtc_10_25, eq_self, reduceIte, Nat.reduceEqDiff, Nat.reduceAdd, Nat.reduceSub, Nat.zero_ne_one, Nat.one_ne_zero, Nat.succ_ne_zero, Nat.reduceLeDiff, reduceCtorEq, and_true, true_and, and_false, false_and, true_implies, false_implies, implies_true, not_true_eq_false, not_false_eq_true, xN_0, xN_s, xlook_c, xlook_n, xb_nil, xb_cons, xlen, xl_cons, xst_def, xst2_def, xdl_nil, xdl_int, xdl_ref, xdl_long, xrv_some, xfit_int, xfit_long, xfit_ref, cat_int, cat_ref, cat_long, xret_int, xret_bool, or_true, true_or, Option.some.injEq, Value.int.injEq, Value.ref.injEq, Value.long.injEq, List.getElem?_cons_zero, List.getElem?_cons_succ, List.set_cons_zero, List.set_cons_succ, List.length_cons, List.length_nil, xup_xup, Classical.not_not, Nat.reduceLT, Nat.zero_lt_succ]
  exact Or.inr (Or.inr ⟨⟨e, e1, e2⟩, by omega, q1, q2⟩)
theorem w_capacity (hO : ObjAt ws pv) (hN : NetAt ws S ver wv) (hw : WF S) (hd : 2 ≤ d) {a b : Int} (h1 : -2147483648 ≤ a) (h2 : a < 2147483648) (h3 : -2147483648 ≤ b) (h4 : b < 2147483648) : xM l tX9_capacity d 0 0 [.ref 0, .int (I a), .int (I b)] n ws (fun r n' ws' => n' = n ∧ ((¬ ((0 ≤ a ∧ a < S.na) ∧ (0 ≤ b ∧ b ≤ 1000)) ∧ r = some (.int (I (-2))) ∧ ws' = ws) ∨ (((0 ≤ a ∧ a < S.na) ∧ (0 ≤ b ∧ b ≤ 1000)) ∧ r = some (.int (I (S.2 2 a.toNat))) ∧ NetAt ws' (putF S 2 a.toNat b) (ver + 1) wv ∧ ∀ q, 10 ≤ q ∨ q = 0 → ws' q = ws q))) := by
  have hN0 := hN
  obtain ⟨n1, n2, n3, n4, n5, n6, n7, n8, n9⟩ := hN
  have hb2 : S.na ≤ 24 := hw.2.1
  unfold ObjAt at hO
  refine xM.of (by decide) (Nat.le_of_ble_eq_true rfl) ?_
  simp only [lv_args, cat_int, cat_ref, cat_long, reduceIte, Nat.reduceEqDiff, Nat.reduceAdd, Nat.one_ne_zero, Nat.reduceLeDiff]
  refine xN_ok (t := tX9_capacity) rfl (T := AX9_capacity) aX9_capacity 1 _ _ _ _ _ _ _ ?_
  simp only [AX9_capacity, oX9_capacity_0, oX9_capacity_8, oX9_capacity_19, oX9_capacity_22, oX9_capacity_25, rX9_capacity, x_iconst, x_bipush, x_sipush, x_lconst, x_iload, x_lload, x_aload, x_istore, x_lstore, x_astore, x_iinc, x_iadd, x_isub, x_imul, x_iand, x_ior, x_ixor, x_ishl, x_ishr, x_ineg, x_ladd, x_lsub, x_lmul, x_ldiv, x_lrem, x_lcmp, x_i2l, x_l2i, x_dup, x_dup_x1, x_dup2, x_if_eq, x_if_ne, x_if_lt, x_if_ge, x_if_gt, x_if_le, x_ic_eq, x_ic_ne, x_ic_lt, x_ic_ge, x_ic_gt, x_ic_le, x_goto, x_ireturn, x_lreturn, x_return, x_getfield, x_putfield, x_iaload, x_baload, x_laload, x_aaload, x_iastore, x_bastore, x_lastore, x_aastore, x_arraylength, x_newarray, x_anewarray, x_new, x_iload_0, x_iload_1, x_iload_2, x_iload_3, x_lload_0, x_lload_1, x_lload_2, x_lload_3, x_aload_0, x_aload_1, x_aload_2, x_aload_3, x_istore_0, x_istore_1, x_istore_2, x_istore_3, x_lstore_0, x_lstore_1, x_lstore_2, x_lstore_3, x_astore_0, x_astore_1, x_astore_2, x_astore_3, q_bipush_m3, q_bipush_m2, q_bipush_6, q_bipush_7, q_bipush_9, q_bipush_10, q_bipush_24, q_bipush_30, q_bipush_48, q_bipush_100, q_sipush_300, q_sipush_1000, q_sipush_24001, q_l0, q_l1, xtc_0_0, xtc_0_1, xtc_0_2, xtc_0_3, xtc_0_4, xtc_0_5, xtc_1_0, xtc_1_1, xtc_1_2, xtc_2_0, xtc_2_1, xtc_3_0, xtc_4_0, xtc_4_1, xtc_4_2, xtc_4_3, xtc_4_4, xtc_4_5, xtc_4_6, xtc_4_7, xtc_4_8, xtc_4_9, xtc_4_10, xtc_4_11, xtc_4_12, xtc_5_0, xtc_5_1, xtc_5_2, xtc_5_3, xtc_5_4, xtc_5_5, xtc_5_6, xtc_6_0, xtc_6_1, xtc_6_2, xtc_7_0, xtc_7_1, xtc_8_0, xtc_8_1, xtc_8_2, xtc_8_3, xtc_9_0, xtc_9_1, xtc_9_2, xtc_9_3, xtc_9_4, xtc_9_5, xtc_9_6, xtc_9_7, xtc_9_8, xtc_9_9, xtc_10_0, xtc_10_1, xtc_10_2, xtc_10_3, xtc_10_4, xtc_10_5, xtc_10_6, xtc_10_7, xtc_10_8, xtc_10_9, xtc_10_10, xtc_10_11, xtc_10_12, xtc_10_13, xtc_10_14, xtc_10_15, xtc_10_16, xtc_10_17, xtc_10_18, xtc_10_19, xtc_10_20, xtc_10_21, xtc_10_22, xtc_10_23, xtc_10_24, xtc_10_25, eq_self, reduceIte, Nat.reduceEqDiff, Nat.reduceAdd, Nat.reduceSub, Nat.zero_ne_one, Nat.one_ne_zero, Nat.succ_ne_zero, Nat.reduceLeDiff, reduceCtorEq, and_true, true_and, and_false, false_and, true_implies, false_implies, implies_true, not_true_eq_false, not_false_eq_true, xN_0, xN_s, xlook_c, xlook_n, xb_nil, xb_cons, xlen, xl_cons, xst_def, xst2_def, xdl_nil, xdl_int, xdl_ref, xdl_long, xrv_some, xfit_int, xfit_long, xfit_ref, cat_int, cat_ref, cat_long, xret_int, xret_bool, or_true, true_or, Option.some.injEq, Value.int.injEq, Value.ref.injEq, Value.long.injEq, List.getElem?_cons_zero, List.getElem?_cons_succ, List.set_cons_zero, List.set_cons_succ, List.length_cons, List.length_nil, xup_xup, Classical.not_not, Nat.reduceLT, Nat.zero_lt_succ, hO]
  refine cX9_capacity_5 n1 (dc := 1) (cc := 0) (cs := 0) (by omega) (by omega) (by omega) (Nat.le_of_ble_eq_true rfl) (w_isArc hN0 (by omega) (by omega) h1 h2) (pureQ ?_)
  simp only [Option.toList_some, Option.toList_none, List.cons_append, List.nil_append, Nat.sub_zero, Nat.reduceSub, Nat.sub_self]
  refine xN_ok (t := tX9_capacity) rfl (T := AX9_capacity) aX9_capacity 2 _ _ _ _ _ _ _ ?_
  simp only [AX9_capacity, oX9_capacity_0, oX9_capacity_8, oX9_capacity_19, oX9_capacity_22, oX9_capacity_25, rX9_capacity, x_iconst, x_bipush, x_sipush, x_lconst, x_iload, x_lload, x_aload, x_istore, x_lstore, x_astore, x_iinc, x_iadd, x_isub, x_imul, x_iand, x_ior, x_ixor, x_ishl, x_ishr, x_ineg, x_ladd, x_lsub, x_lmul, x_ldiv, x_lrem, x_lcmp, x_i2l, x_l2i, x_dup, x_dup_x1, x_dup2, x_if_eq, x_if_ne, x_if_lt, x_if_ge, x_if_gt, x_if_le, x_ic_eq, x_ic_ne, x_ic_lt, x_ic_ge, x_ic_gt, x_ic_le, x_goto, x_ireturn, x_lreturn, x_return, x_getfield, x_putfield, x_iaload, x_baload, x_laload, x_aaload, x_iastore, x_bastore, x_lastore, x_aastore, x_arraylength, x_newarray, x_anewarray, x_new, x_iload_0, x_iload_1, x_iload_2, x_iload_3, x_lload_0, x_lload_1, x_lload_2, x_lload_3, x_aload_0, x_aload_1, x_aload_2, x_aload_3, x_istore_0, x_istore_1, x_istore_2, x_istore_3, x_lstore_0, x_lstore_1, x_lstore_2, x_lstore_3, x_astore_0, x_astore_1, x_astore_2, x_astore_3, q_bipush_m3, q_bipush_m2, q_bipush_6, q_bipush_7, q_bipush_9, q_bipush_10, q_bipush_24, q_bipush_30, q_bipush_48, q_bipush_100, q_sipush_300, q_sipush_1000, q_sipush_24001, q_l0, q_l1, xtc_0_0, xtc_0_1, xtc_0_2, xtc_0_3, xtc_0_4, xtc_0_5, xtc_1_0, xtc_1_1, xtc_1_2, xtc_2_0, xtc_2_1, xtc_3_0, xtc_4_0, xtc_4_1, xtc_4_2, xtc_4_3, xtc_4_4, xtc_4_5, xtc_4_6, xtc_4_7, xtc_4_8, xtc_4_9, xtc_4_10, xtc_4_11, xtc_4_12, xtc_5_0, xtc_5_1, xtc_5_2, xtc_5_3, xtc_5_4, xtc_5_5, xtc_5_6, xtc_6_0, xtc_6_1, xtc_6_2, xtc_7_0, xtc_7_1, xtc_8_0, xtc_8_1, xtc_8_2, xtc_8_3, xtc_9_0, xtc_9_1, xtc_9_2, xtc_9_3, xtc_9_4, xtc_9_5, xtc_9_6, xtc_9_7, xtc_9_8, xtc_9_9, xtc_10_0, xtc_10_1, xtc_10_2, xtc_10_3, xtc_10_4, xtc_10_5, xtc_10_6, xtc_10_7, xtc_10_8, xtc_10_9, xtc_10_10, xtc_10_11, xtc_10_12, xtc_10_13, xtc_10_14, xtc_10_15, xtc_10_16, xtc_10_17, xtc_10_18, xtc_10_19, xtc_10_20, xtc_10_21, xtc_10_22, xtc_10_23, xtc_10_24, xtc_10_25, eq_self, reduceIte, Nat.reduceEqDiff, Nat.reduceAdd, Nat.reduceSub, Nat.zero_ne_one, Nat.one_ne_zero, Nat.succ_ne_zero, Nat.reduceLeDiff, reduceCtorEq, and_true, true_and, and_false, false_and, true_implies, false_implies, implies_true, not_true_eq_false, not_false_eq_true, xN_0, xN_s, xlook_c, xlook_n, xb_nil, xb_cons, xlen, xl_cons, xst_def, xst2_def, xdl_nil, xdl_int, xdl_ref, xdl_long, xrv_some, xfit_int, xfit_long, xfit_ref, cat_int, cat_ref, cat_long, xret_int, xret_bool, or_true, true_or, Option.some.injEq, Value.int.injEq, Value.ref.injEq, Value.long.injEq, List.getElem?_cons_zero, List.getElem?_cons_succ, List.set_cons_zero, List.set_cons_succ, List.length_cons, List.length_nil, xup_xup, Classical.not_not, Nat.reduceLT, Nat.zero_lt_succ, I_b0]
  refine ⟨fun e => Or.inl (fun q => e q.1), fun e => ?_⟩
  refine cX9_capacity_16 (dc := 0) (cc := 0) (cs := 0) (by omega) (by omega) (by omega) (Nat.le_of_ble_eq_true rfl) (w_isWithin l 0 _ _ (by omega) (by omega) (by omega) (by omega) (by omega) (by omega)) (pureQ ?_)
  simp only [Option.toList_some, Option.toList_none, List.cons_append, List.nil_append, Nat.sub_zero, Nat.reduceSub, Nat.sub_self]
  refine xN_ok (t := tX9_capacity) rfl (T := AX9_capacity) aX9_capacity 3 _ _ _ _ _ _ _ ?_
  simp only [AX9_capacity, oX9_capacity_0, oX9_capacity_8, oX9_capacity_19, oX9_capacity_22, oX9_capacity_25, rX9_capacity, x_iconst, x_bipush, x_sipush, x_lconst, x_iload, x_lload, x_aload, x_istore, x_lstore, x_astore, x_iinc, x_iadd, x_isub, x_imul, x_iand, x_ior, x_ixor, x_ishl, x_ishr, x_ineg, x_ladd, x_lsub, x_lmul, x_ldiv, x_lrem, x_lcmp, x_i2l, x_l2i, x_dup, x_dup_x1, x_dup2, x_if_eq, x_if_ne, x_if_lt, x_if_ge, x_if_gt, x_if_le, x_ic_eq, x_ic_ne, x_ic_lt, x_ic_ge, x_ic_gt, x_ic_le, x_goto, x_ireturn, x_lreturn, x_return, x_getfield, x_putfield, x_iaload, x_baload, x_laload, x_aaload, x_iastore, x_bastore, x_lastore, x_aastore, x_arraylength, x_newarray, x_anewarray, x_new, x_iload_0, x_iload_1, x_iload_2, x_iload_3, x_lload_0, x_lload_1, x_lload_2, x_lload_3, x_aload_0, x_aload_1, x_aload_2, x_aload_3, x_istore_0, x_istore_1, x_istore_2, x_istore_3, x_lstore_0, x_lstore_1, x_lstore_2, x_lstore_3, x_astore_0, x_astore_1, x_astore_2, x_astore_3, q_bipush_m3, q_bipush_m2, q_bipush_6, q_bipush_7, q_bipush_9, q_bipush_10, q_bipush_24, q_bipush_30, q_bipush_48, q_bipush_100, q_sipush_300, q_sipush_1000, q_sipush_24001, q_l0, q_l1, xtc_0_0, xtc_0_1, xtc_0_2, xtc_0_3, xtc_0_4, xtc_0_5, xtc_1_0, xtc_1_1, xtc_1_2, xtc_2_0, xtc_2_1, xtc_3_0, xtc_4_0, xtc_4_1, xtc_4_2, xtc_4_3, xtc_4_4, xtc_4_5, xtc_4_6, xtc_4_7, xtc_4_8, xtc_4_9, xtc_4_10, xtc_4_11, xtc_4_12, xtc_5_0, xtc_5_1, xtc_5_2, xtc_5_3, xtc_5_4, xtc_5_5, xtc_5_6, xtc_6_0, xtc_6_1, xtc_6_2, xtc_7_0, xtc_7_1, xtc_8_0, xtc_8_1, xtc_8_2, xtc_8_3, xtc_9_0, xtc_9_1, xtc_9_2, xtc_9_3, xtc_9_4, xtc_9_5, xtc_9_6, xtc_9_7, xtc_9_8, xtc_9_9, xtc_10_0, xtc_10_1, xtc_10_2, xtc_10_3, xtc_10_4, xtc_10_5, xtc_10_6, xtc_10_7, xtc_10_8, xtc_10_9, xtc_10_10, xtc_10_11, xtc_10_12, xtc_10_13, xtc_10_14, xtc_10_15, xtc_10_16, xtc_10_17, xtc_10_18, xtc_10_19, xtc_10_20, xtc_10_21, xtc_10_22, xtc_10_23, xtc_10_24, xtc_10_25, eq_self, reduceIte, Nat.reduceEqDiff, Nat.reduceAdd, Nat.reduceSub, Nat.zero_ne_one, Nat.one_ne_zero, Nat.succ_ne_zero, Nat.reduceLeDiff, reduceCtorEq, and_true, true_and, and_false, false_and, true_implies, false_implies, implies_true, not_true_eq_false, not_false_eq_true, xN_0, xN_s, xlook_c, xlook_n, xb_nil, xb_cons, xlen, xl_cons, xst_def, xst2_def, xdl_nil, xdl_int, xdl_ref, xdl_long, xrv_some, xfit_int, xfit_long, xfit_ref, cat_int, cat_ref, cat_long, xret_int, xret_bool, or_true, true_or, Option.some.injEq, Value.int.injEq, Value.ref.injEq, Value.long.injEq, List.getElem?_cons_zero, List.getElem?_cons_succ, List.set_cons_zero, List.set_cons_succ, List.length_cons, List.length_nil, xup_xup, Classical.not_not, Nat.reduceLT, Nat.zero_lt_succ, I_b0, hO, n1, n4, xup_self, xup_ne, ne_eq, I_add, ra_len]
  simp (disch := omega) only [I_in, ra_get, ra_set]
  refine ⟨fun e2 => ⟨by omega, by omega, Or.inr ⟨⟨e, e2⟩, trivial, ?_, ?_⟩⟩, fun e2 => Or.inl (fun q => e2 q.2)⟩
  · simp only [NetAt, putF, xup_self, xup_ne, ne_eq, Nat.reduceEqDiff, not_false_eq_true, n2, n3, n4, n5, n6, n7, n8, n9, sF]
    simp
  · intro q hq
    simp only [xup]
    repeat rw [if_neg (by omega)]
theorem w_cost (hO : ObjAt ws pv) (hN : NetAt ws S ver wv) (hw : WF S) (hd : 2 ≤ d) {a b : Int} (h1 : -2147483648 ≤ a) (h2 : a < 2147483648) (h3 : -2147483648 ≤ b) (h4 : b < 2147483648) : xM l tX9_cost d 0 0 [.ref 0, .int (I a), .int (I b)] n ws (fun r n' ws' => n' = n ∧ ((¬ ((0 ≤ a ∧ a < S.na) ∧ (0 ≤ b ∧ b ≤ 100)) ∧ r = some (.int (I (-2))) ∧ ws' = ws) ∨ (((0 ≤ a ∧ a < S.na) ∧ (0 ≤ b ∧ b ≤ 100)) ∧ r = some (.int (I (S.2 3 a.toNat))) ∧ NetAt ws' (putF S 3 a.toNat b) (ver + 1) (wv + 1) ∧ ∀ q, 10 ≤ q ∨ q = 0 → ws' q = ws q))) := by
  have hN0 := hN
  obtain ⟨n1, n2, n3, n4, n5, n6, n7, n8, n9⟩ := hN
  have hb2 : S.na ≤ 24 := hw.2.1
  unfold ObjAt at hO
  refine xM.of (by decide) (Nat.le_of_ble_eq_true rfl) ?_
  simp only [lv_args, cat_int, cat_ref, cat_long, reduceIte, Nat.reduceEqDiff, Nat.reduceAdd, Nat.one_ne_zero, Nat.reduceLeDiff]
  refine xN_ok (t := tX9_cost) rfl (T := AX9_cost) aX9_cost 1 _ _ _ _ _ _ _ ?_
  simp only [AX9_cost, oX9_cost_0, oX9_cost_8, oX9_cost_18, oX9_cost_21, oX9_cost_24, rX9_cost, x_iconst, x_bipush, x_sipush, x_lconst, x_iload, x_lload, x_aload, x_istore, x_lstore, x_astore, x_iinc, x_iadd, x_isub, x_imul, x_iand, x_ior, x_ixor, x_ishl, x_ishr, x_ineg, x_ladd, x_lsub, x_lmul, x_ldiv, x_lrem, x_lcmp, x_i2l, x_l2i, x_dup, x_dup_x1, x_dup2, x_if_eq, x_if_ne, x_if_lt, x_if_ge, x_if_gt, x_if_le, x_ic_eq, x_ic_ne, x_ic_lt, x_ic_ge, x_ic_gt, x_ic_le, x_goto, x_ireturn, x_lreturn, x_return, x_getfield, x_putfield, x_iaload, x_baload, x_laload, x_aaload, x_iastore, x_bastore, x_lastore, x_aastore, x_arraylength, x_newarray, x_anewarray, x_new, x_iload_0, x_iload_1, x_iload_2, x_iload_3, x_lload_0, x_lload_1, x_lload_2, x_lload_3, x_aload_0, x_aload_1, x_aload_2, x_aload_3, x_istore_0, x_istore_1, x_istore_2, x_istore_3, x_lstore_0, x_lstore_1, x_lstore_2, x_lstore_3, x_astore_0, x_astore_1, x_astore_2, x_astore_3, q_bipush_m3, q_bipush_m2, q_bipush_6, q_bipush_7, q_bipush_9, q_bipush_10, q_bipush_24, q_bipush_30, q_bipush_48, q_bipush_100, q_sipush_300, q_sipush_1000, q_sipush_24001, q_l0, q_l1, xtc_0_0, xtc_0_1, xtc_0_2, xtc_0_3, xtc_0_4, xtc_0_5, xtc_1_0, xtc_1_1, xtc_1_2, xtc_2_0, xtc_2_1, xtc_3_0, xtc_4_0, xtc_4_1, xtc_4_2, xtc_4_3, xtc_4_4, xtc_4_5, xtc_4_6, xtc_4_7, xtc_4_8, xtc_4_9, xtc_4_10, xtc_4_11, xtc_4_12, xtc_5_0, xtc_5_1, xtc_5_2, xtc_5_3, xtc_5_4, xtc_5_5, xtc_5_6, xtc_6_0, xtc_6_1, xtc_6_2, xtc_7_0, xtc_7_1, xtc_8_0, xtc_8_1, xtc_8_2, xtc_8_3, xtc_9_0, xtc_9_1, xtc_9_2, xtc_9_3, xtc_9_4, xtc_9_5, xtc_9_6, xtc_9_7, xtc_9_8, xtc_9_9, xtc_10_0, xtc_10_1, xtc_10_2, xtc_10_3, xtc_10_4, xtc_10_5, xtc_10_6, xtc_10_7, xtc_10_8, xtc_10_9, xtc_10_10, xtc_10_11, xtc_10_12, xtc_10_13, xtc_10_14, xtc_10_15, xtc_10_16, xtc_10_17, xtc_10_18, xtc_10_19, xtc_10_20, xtc_10_21, xtc_10_22, xtc_10_23, xtc_10_24, xtc_10_25, eq_self, reduceIte, Nat.reduceEqDiff, Nat.reduceAdd, Nat.reduceSub, Nat.zero_ne_one, Nat.one_ne_zero, Nat.succ_ne_zero, Nat.reduceLeDiff, reduceCtorEq, and_true, true_and, and_false, false_and, true_implies, false_implies, implies_true, not_true_eq_false, not_false_eq_true, xN_0, xN_s, xlook_c, xlook_n, xb_nil, xb_cons, xlen, xl_cons, xst_def, xst2_def, xdl_nil, xdl_int, xdl_ref, xdl_long, xrv_some, xfit_int, xfit_long, xfit_ref, cat_int, cat_ref, cat_long, xret_int, xret_bool, or_true, true_or, Option.some.injEq, Value.int.injEq, Value.ref.injEq, Value.long.injEq, List.getElem?_cons_zero, List.getElem?_cons_succ, List.set_cons_zero, List.set_cons_succ, List.length_cons, List.length_nil, xup_xup, Classical.not_not, Nat.reduceLT, Nat.zero_lt_succ, hO]
  refine cX9_cost_5 n1 (dc := 1) (cc := 0) (cs := 0) (by omega) (by omega) (by omega) (Nat.le_of_ble_eq_true rfl) (w_isArc hN0 (by omega) (by omega) h1 h2) (pureQ ?_)
  simp only [Option.toList_some, Option.toList_none, List.cons_append, List.nil_append, Nat.sub_zero, Nat.reduceSub, Nat.sub_self]
  refine xN_ok (t := tX9_cost) rfl (T := AX9_cost) aX9_cost 2 _ _ _ _ _ _ _ ?_
  simp only [AX9_cost, oX9_cost_0, oX9_cost_8, oX9_cost_18, oX9_cost_21, oX9_cost_24, rX9_cost, x_iconst, x_bipush, x_sipush, x_lconst, x_iload, x_lload, x_aload, x_istore, x_lstore, x_astore, x_iinc, x_iadd, x_isub, x_imul, x_iand, x_ior, x_ixor, x_ishl, x_ishr, x_ineg, x_ladd, x_lsub, x_lmul, x_ldiv, x_lrem, x_lcmp, x_i2l, x_l2i, x_dup, x_dup_x1, x_dup2, x_if_eq, x_if_ne, x_if_lt, x_if_ge, x_if_gt, x_if_le, x_ic_eq, x_ic_ne, x_ic_lt, x_ic_ge, x_ic_gt, x_ic_le, x_goto, x_ireturn, x_lreturn, x_return, x_getfield, x_putfield, x_iaload, x_baload, x_laload, x_aaload, x_iastore, x_bastore, x_lastore, x_aastore, x_arraylength, x_newarray, x_anewarray, x_new, x_iload_0, x_iload_1, x_iload_2, x_iload_3, x_lload_0, x_lload_1, x_lload_2, x_lload_3, x_aload_0, x_aload_1, x_aload_2, x_aload_3, x_istore_0, x_istore_1, x_istore_2, x_istore_3, x_lstore_0, x_lstore_1, x_lstore_2, x_lstore_3, x_astore_0, x_astore_1, x_astore_2, x_astore_3, q_bipush_m3, q_bipush_m2, q_bipush_6, q_bipush_7, q_bipush_9, q_bipush_10, q_bipush_24, q_bipush_30, q_bipush_48, q_bipush_100, q_sipush_300, q_sipush_1000, q_sipush_24001, q_l0, q_l1, xtc_0_0, xtc_0_1, xtc_0_2, xtc_0_3, xtc_0_4, xtc_0_5, xtc_1_0, xtc_1_1, xtc_1_2, xtc_2_0, xtc_2_1, xtc_3_0, xtc_4_0, xtc_4_1, xtc_4_2, xtc_4_3, xtc_4_4, xtc_4_5, xtc_4_6, xtc_4_7, xtc_4_8, xtc_4_9, xtc_4_10, xtc_4_11, xtc_4_12, xtc_5_0, xtc_5_1, xtc_5_2, xtc_5_3, xtc_5_4, xtc_5_5, xtc_5_6, xtc_6_0, xtc_6_1, xtc_6_2, xtc_7_0, xtc_7_1, xtc_8_0, xtc_8_1, xtc_8_2, xtc_8_3, xtc_9_0, xtc_9_1, xtc_9_2, xtc_9_3, xtc_9_4, xtc_9_5, xtc_9_6, xtc_9_7, xtc_9_8, xtc_9_9, xtc_10_0, xtc_10_1, xtc_10_2, xtc_10_3, xtc_10_4, xtc_10_5, xtc_10_6, xtc_10_7, xtc_10_8, xtc_10_9, xtc_10_10, xtc_10_11, xtc_10_12, xtc_10_13, xtc_10_14, xtc_10_15, xtc_10_16, xtc_10_17, xtc_10_18, xtc_10_19, xtc_10_20, xtc_10_21, xtc_10_22, xtc_10_23, xtc_10_24, xtc_10_25, eq_self, reduceIte, Nat.reduceEqDiff, Nat.reduceAdd, Nat.reduceSub, Nat.zero_ne_one, Nat.one_ne_zero, Nat.succ_ne_zero, Nat.reduceLeDiff, reduceCtorEq, and_true, true_and, and_false, false_and, true_implies, false_implies, implies_true, not_true_eq_false, not_false_eq_true, xN_0, xN_s, xlook_c, xlook_n, xb_nil, xb_cons, xlen, xl_cons, xst_def, xst2_def, xdl_nil, xdl_int, xdl_ref, xdl_long, xrv_some, xfit_int, xfit_long, xfit_ref, cat_int, cat_ref, cat_long, xret_int, xret_bool, or_true, true_or, Option.some.injEq, Value.int.injEq, Value.ref.injEq, Value.long.injEq, List.getElem?_cons_zero, List.getElem?_cons_succ, List.set_cons_zero, List.set_cons_succ, List.length_cons, List.length_nil, xup_xup, Classical.not_not, Nat.reduceLT, Nat.zero_lt_succ, I_b0]
  refine ⟨fun e => Or.inl (fun q => e q.1), fun e => ?_⟩
  refine cX9_cost_15 (dc := 0) (cc := 0) (cs := 0) (by omega) (by omega) (by omega) (Nat.le_of_ble_eq_true rfl) (w_isWithin l 0 _ _ (by omega) (by omega) (by omega) (by omega) (by omega) (by omega)) (pureQ ?_)
  simp only [Option.toList_some, Option.toList_none, List.cons_append, List.nil_append, Nat.sub_zero, Nat.reduceSub, Nat.sub_self]
  refine xN_ok (t := tX9_cost) rfl (T := AX9_cost) aX9_cost 3 _ _ _ _ _ _ _ ?_
  simp only [AX9_cost, oX9_cost_0, oX9_cost_8, oX9_cost_18, oX9_cost_21, oX9_cost_24, rX9_cost, x_iconst, x_bipush, x_sipush, x_lconst, x_iload, x_lload, x_aload, x_istore, x_lstore, x_astore, x_iinc, x_iadd, x_isub, x_imul, x_iand, x_ior, x_ixor, x_ishl, x_ishr, x_ineg, x_ladd, x_lsub, x_lmul, x_ldiv, x_lrem, x_lcmp, x_i2l, x_l2i, x_dup, x_dup_x1, x_dup2, x_if_eq, x_if_ne, x_if_lt, x_if_ge, x_if_gt, x_if_le, x_ic_eq, x_ic_ne, x_ic_lt, x_ic_ge, x_ic_gt, x_ic_le, x_goto, x_ireturn, x_lreturn, x_return, x_getfield, x_putfield, x_iaload, x_baload, x_laload, x_aaload, x_iastore, x_bastore, x_lastore, x_aastore, x_arraylength, x_newarray, x_anewarray, x_new, x_iload_0, x_iload_1, x_iload_2, x_iload_3, x_lload_0, x_lload_1, x_lload_2, x_lload_3, x_aload_0, x_aload_1, x_aload_2, x_aload_3, x_istore_0, x_istore_1, x_istore_2, x_istore_3, x_lstore_0, x_lstore_1, x_lstore_2, x_lstore_3, x_astore_0, x_astore_1, x_astore_2, x_astore_3, q_bipush_m3, q_bipush_m2, q_bipush_6, q_bipush_7, q_bipush_9, q_bipush_10, q_bipush_24, q_bipush_30, q_bipush_48, q_bipush_100, q_sipush_300, q_sipush_1000, q_sipush_24001, q_l0, q_l1, xtc_0_0, xtc_0_1, xtc_0_2, xtc_0_3, xtc_0_4, xtc_0_5, xtc_1_0, xtc_1_1, xtc_1_2, xtc_2_0, xtc_2_1, xtc_3_0, xtc_4_0, xtc_4_1, xtc_4_2, xtc_4_3, xtc_4_4, xtc_4_5, xtc_4_6, xtc_4_7, xtc_4_8, xtc_4_9, xtc_4_10, xtc_4_11, xtc_4_12, xtc_5_0, xtc_5_1, xtc_5_2, xtc_5_3, xtc_5_4, xtc_5_5, xtc_5_6, xtc_6_0, xtc_6_1, xtc_6_2, xtc_7_0, xtc_7_1, xtc_8_0, xtc_8_1, xtc_8_2, xtc_8_3, xtc_9_0, xtc_9_1, xtc_9_2, xtc_9_3, xtc_9_4, xtc_9_5, xtc_9_6, xtc_9_7, xtc_9_8, xtc_9_9, xtc_10_0, xtc_10_1, xtc_10_2, xtc_10_3, xtc_10_4, xtc_10_5, xtc_10_6, xtc_10_7, xtc_10_8, xtc_10_9, xtc_10_10, xtc_10_11, xtc_10_12, xtc_10_13, xtc_10_14, xtc_10_15, xtc_10_16, xtc_10_17, xtc_10_18, xtc_10_19, xtc_10_20, xtc_10_21, xtc_10_22, xtc_10_23, xtc_10_24, xtc_10_25, eq_self, reduceIte, Nat.reduceEqDiff, Nat.reduceAdd, Nat.reduceSub, Nat.zero_ne_one, Nat.one_ne_zero, Nat.succ_ne_zero, Nat.reduceLeDiff, reduceCtorEq, and_true, true_and, and_false, false_and, true_implies, false_implies, implies_true, not_true_eq_false, not_false_eq_true, xN_0, xN_s, xlook_c, xlook_n, xb_nil, xb_cons, xlen, xl_cons, xst_def, xst2_def, xdl_nil, xdl_int, xdl_ref, xdl_long, xrv_some, xfit_int, xfit_long, xfit_ref, cat_int, cat_ref, cat_long, xret_int, xret_bool, or_true, true_or, Option.some.injEq, Value.int.injEq, Value.ref.injEq, Value.long.injEq, List.getElem?_cons_zero, List.getElem?_cons_succ, List.set_cons_zero, List.set_cons_succ, List.length_cons, List.length_nil, xup_xup, Classical.not_not, Nat.reduceLT, Nat.zero_lt_succ, I_b0, hO, n1, n5, xup_self, xup_ne, ne_eq, I_add, ra_len]
  simp (disch := omega) only [I_in, ra_get, ra_set]
  refine ⟨fun e2 => ⟨by omega, by omega, Or.inr ⟨⟨e, e2⟩, trivial, ?_, ?_⟩⟩, fun e2 => Or.inl (fun q => e2 q.2)⟩
  · simp only [NetAt, putF, xup_self, xup_ne, ne_eq, Nat.reduceEqDiff, not_false_eq_true, n2, n3, n4, n5, n6, n7, n8, n9, sF]
    simp
  · intro q hq
    simp only [xup]
    repeat rw [if_neg (by omega)]
theorem w_demand (hO : ObjAt ws pv) (hN : NetAt ws S ver wv) (hw : WF S) (hd : 2 ≤ d) {a b : Int} (h1 : -2147483648 ≤ a) (h2 : a < 2147483648) (h3 : -2147483648 ≤ b) (h4 : b < 2147483648) : xM l tX9_demand d 0 0 [.ref 0, .int (I a), .int (I b)] n ws (fun r n' ws' => n' = n ∧ ((¬ ((0 ≤ a ∧ a < S.ng) ∧ (1 ≤ b ∧ b ≤ 1000)) ∧ r = some (.int (I (-2))) ∧ ws' = ws) ∨ (((0 ≤ a ∧ a < S.ng) ∧ (1 ≤ b ∧ b ≤ 1000)) ∧ r = some (.int (I (S.2 6 a.toNat))) ∧ NetAt ws' (putF S 6 a.toNat b) (ver + 1) wv ∧ ∀ q, 10 ≤ q ∨ q = 0 → ws' q = ws q))) := by
  have hN0 := hN
  obtain ⟨n1, n2, n3, n4, n5, n6, n7, n8, n9⟩ := hN
  have hb2 : S.ng ≤ 6 := hw.2.2.1
  unfold ObjAt at hO
  refine xM.of (by decide) (Nat.le_of_ble_eq_true rfl) ?_
  simp only [lv_args, cat_int, cat_ref, cat_long, reduceIte, Nat.reduceEqDiff, Nat.reduceAdd, Nat.one_ne_zero, Nat.reduceLeDiff]
  refine xN_ok (t := tX9_demand) rfl (T := AX9_demand) aX9_demand 1 _ _ _ _ _ _ _ ?_
  simp only [AX9_demand, oX9_demand_0, oX9_demand_8, oX9_demand_19, oX9_demand_22, oX9_demand_25, rX9_demand, x_iconst, x_bipush, x_sipush, x_lconst, x_iload, x_lload, x_aload, x_istore, x_lstore, x_astore, x_iinc, x_iadd, x_isub, x_imul, x_iand, x_ior, x_ixor, x_ishl, x_ishr, x_ineg, x_ladd, x_lsub, x_lmul, x_ldiv, x_lrem, x_lcmp, x_i2l, x_l2i, x_dup, x_dup_x1, x_dup2, x_if_eq, x_if_ne, x_if_lt, x_if_ge, x_if_gt, x_if_le, x_ic_eq, x_ic_ne, x_ic_lt, x_ic_ge, x_ic_gt, x_ic_le, x_goto, x_ireturn, x_lreturn, x_return, x_getfield, x_putfield, x_iaload, x_baload, x_laload, x_aaload, x_iastore, x_bastore, x_lastore, x_aastore, x_arraylength, x_newarray, x_anewarray, x_new, x_iload_0, x_iload_1, x_iload_2, x_iload_3, x_lload_0, x_lload_1, x_lload_2, x_lload_3, x_aload_0, x_aload_1, x_aload_2, x_aload_3, x_istore_0, x_istore_1, x_istore_2, x_istore_3, x_lstore_0, x_lstore_1, x_lstore_2, x_lstore_3, x_astore_0, x_astore_1, x_astore_2, x_astore_3, q_bipush_m3, q_bipush_m2, q_bipush_6, q_bipush_7, q_bipush_9, q_bipush_10, q_bipush_24, q_bipush_30, q_bipush_48, q_bipush_100, q_sipush_300, q_sipush_1000, q_sipush_24001, q_l0, q_l1, xtc_0_0, xtc_0_1, xtc_0_2, xtc_0_3, xtc_0_4, xtc_0_5, xtc_1_0, xtc_1_1, xtc_1_2, xtc_2_0, xtc_2_1, xtc_3_0, xtc_4_0, xtc_4_1, xtc_4_2, xtc_4_3, xtc_4_4, xtc_4_5, xtc_4_6, xtc_4_7, xtc_4_8, xtc_4_9, xtc_4_10, xtc_4_11, xtc_4_12, xtc_5_0, xtc_5_1, xtc_5_2, xtc_5_3, xtc_5_4, xtc_5_5, xtc_5_6, xtc_6_0, xtc_6_1, xtc_6_2, xtc_7_0, xtc_7_1, xtc_8_0, xtc_8_1, xtc_8_2, xtc_8_3, xtc_9_0, xtc_9_1, xtc_9_2, xtc_9_3, xtc_9_4, xtc_9_5, xtc_9_6, xtc_9_7, xtc_9_8, xtc_9_9, xtc_10_0, xtc_10_1, xtc_10_2, xtc_10_3, xtc_10_4, xtc_10_5, xtc_10_6, xtc_10_7, xtc_10_8, xtc_10_9, xtc_10_10, xtc_10_11, xtc_10_12, xtc_10_13, xtc_10_14, xtc_10_15, xtc_10_16, xtc_10_17, xtc_10_18, xtc_10_19, xtc_10_20, xtc_10_21, xtc_10_22, xtc_10_23, xtc_10_24, xtc_10_25, eq_self, reduceIte, Nat.reduceEqDiff, Nat.reduceAdd, Nat.reduceSub, Nat.zero_ne_one, Nat.one_ne_zero, Nat.succ_ne_zero, Nat.reduceLeDiff, reduceCtorEq, and_true, true_and, and_false, false_and, true_implies, false_implies, implies_true, not_true_eq_false, not_false_eq_true, xN_0, xN_s, xlook_c, xlook_n, xb_nil, xb_cons, xlen, xl_cons, xst_def, xst2_def, xdl_nil, xdl_int, xdl_ref, xdl_long, xrv_some, xfit_int, xfit_long, xfit_ref, cat_int, cat_ref, cat_long, xret_int, xret_bool, or_true, true_or, Option.some.injEq, Value.int.injEq, Value.ref.injEq, Value.long.injEq, List.getElem?_cons_zero, List.getElem?_cons_succ, List.set_cons_zero, List.set_cons_succ, List.length_cons, List.length_nil, xup_xup, Classical.not_not, Nat.reduceLT, Nat.zero_lt_succ, hO]
  refine cX9_demand_5 n1 (dc := 1) (cc := 0) (cs := 0) (by omega) (by omega) (by omega) (Nat.le_of_ble_eq_true rfl) (w_isGood hN0 (by omega) (by omega) h1 h2) (pureQ ?_)
  simp only [Option.toList_some, Option.toList_none, List.cons_append, List.nil_append, Nat.sub_zero, Nat.reduceSub, Nat.sub_self]
  refine xN_ok (t := tX9_demand) rfl (T := AX9_demand) aX9_demand 2 _ _ _ _ _ _ _ ?_
  simp only [AX9_demand, oX9_demand_0, oX9_demand_8, oX9_demand_19, oX9_demand_22, oX9_demand_25, rX9_demand, x_iconst, x_bipush, x_sipush, x_lconst, x_iload, x_lload, x_aload, x_istore, x_lstore, x_astore, x_iinc, x_iadd, x_isub, x_imul, x_iand, x_ior, x_ixor, x_ishl, x_ishr, x_ineg, x_ladd, x_lsub, x_lmul, x_ldiv, x_lrem, x_lcmp, x_i2l, x_l2i, x_dup, x_dup_x1, x_dup2, x_if_eq, x_if_ne, x_if_lt, x_if_ge, x_if_gt, x_if_le, x_ic_eq, x_ic_ne, x_ic_lt, x_ic_ge, x_ic_gt, x_ic_le, x_goto, x_ireturn, x_lreturn, x_return, x_getfield, x_putfield, x_iaload, x_baload, x_laload, x_aaload, x_iastore, x_bastore, x_lastore, x_aastore, x_arraylength, x_newarray, x_anewarray, x_new, x_iload_0, x_iload_1, x_iload_2, x_iload_3, x_lload_0, x_lload_1, x_lload_2, x_lload_3, x_aload_0, x_aload_1, x_aload_2, x_aload_3, x_istore_0, x_istore_1, x_istore_2, x_istore_3, x_lstore_0, x_lstore_1, x_lstore_2, x_lstore_3, x_astore_0, x_astore_1, x_astore_2, x_astore_3, q_bipush_m3, q_bipush_m2, q_bipush_6, q_bipush_7, q_bipush_9, q_bipush_10, q_bipush_24, q_bipush_30, q_bipush_48, q_bipush_100, q_sipush_300, q_sipush_1000, q_sipush_24001, q_l0, q_l1, xtc_0_0, xtc_0_1, xtc_0_2, xtc_0_3, xtc_0_4, xtc_0_5, xtc_1_0, xtc_1_1, xtc_1_2, xtc_2_0, xtc_2_1, xtc_3_0, xtc_4_0, xtc_4_1, xtc_4_2, xtc_4_3, xtc_4_4, xtc_4_5, xtc_4_6, xtc_4_7, xtc_4_8, xtc_4_9, xtc_4_10, xtc_4_11, xtc_4_12, xtc_5_0, xtc_5_1, xtc_5_2, xtc_5_3, xtc_5_4, xtc_5_5, xtc_5_6, xtc_6_0, xtc_6_1, xtc_6_2, xtc_7_0, xtc_7_1, xtc_8_0, xtc_8_1, xtc_8_2, xtc_8_3, xtc_9_0, xtc_9_1, xtc_9_2, xtc_9_3, xtc_9_4, xtc_9_5, xtc_9_6, xtc_9_7, xtc_9_8, xtc_9_9, xtc_10_0, xtc_10_1, xtc_10_2, xtc_10_3, xtc_10_4, xtc_10_5, xtc_10_6, xtc_10_7, xtc_10_8, xtc_10_9, xtc_10_10, xtc_10_11, xtc_10_12, xtc_10_13, xtc_10_14, xtc_10_15, xtc_10_16, xtc_10_17, xtc_10_18, xtc_10_19, xtc_10_20, xtc_10_21, xtc_10_22, xtc_10_23, xtc_10_24, xtc_10_25, eq_self, reduceIte, Nat.reduceEqDiff, Nat.reduceAdd, Nat.reduceSub, Nat.zero_ne_one, Nat.one_ne_zero, Nat.succ_ne_zero, Nat.reduceLeDiff, reduceCtorEq, and_true, true_and, and_false, false_and, true_implies, false_implies, implies_true, not_true_eq_false, not_false_eq_true, xN_0, xN_s, xlook_c, xlook_n, xb_nil, xb_cons, xlen, xl_cons, xst_def, xst2_def, xdl_nil, xdl_int, xdl_ref, xdl_long, xrv_some, xfit_int, xfit_long, xfit_ref, cat_int, cat_ref, cat_long, xret_int, xret_bool, or_true, true_or, Option.some.injEq, Value.int.injEq, Value.ref.injEq, Value.long.injEq, List.getElem?_cons_zero, List.getElem?_cons_succ, List.set_cons_zero, List.set_cons_succ, List.length_cons, List.length_nil, xup_xup, Classical.not_not, Nat.reduceLT, Nat.zero_lt_succ, I_b0]
  refine ⟨fun e => Or.inl (fun q => e q.1), fun e => ?_⟩
  refine cX9_demand_16 (dc := 0) (cc := 0) (cs := 0) (by omega) (by omega) (by omega) (Nat.le_of_ble_eq_true rfl) (w_isWithin l 0 _ _ (by omega) (by omega) (by omega) (by omega) (by omega) (by omega)) (pureQ ?_)
  simp only [Option.toList_some, Option.toList_none, List.cons_append, List.nil_append, Nat.sub_zero, Nat.reduceSub, Nat.sub_self]
  refine xN_ok (t := tX9_demand) rfl (T := AX9_demand) aX9_demand 3 _ _ _ _ _ _ _ ?_
  simp only [AX9_demand, oX9_demand_0, oX9_demand_8, oX9_demand_19, oX9_demand_22, oX9_demand_25, rX9_demand, x_iconst, x_bipush, x_sipush, x_lconst, x_iload, x_lload, x_aload, x_istore, x_lstore, x_astore, x_iinc, x_iadd, x_isub, x_imul, x_iand, x_ior, x_ixor, x_ishl, x_ishr, x_ineg, x_ladd, x_lsub, x_lmul, x_ldiv, x_lrem, x_lcmp, x_i2l, x_l2i, x_dup, x_dup_x1, x_dup2, x_if_eq, x_if_ne, x_if_lt, x_if_ge, x_if_gt, x_if_le, x_ic_eq, x_ic_ne, x_ic_lt, x_ic_ge, x_ic_gt, x_ic_le, x_goto, x_ireturn, x_lreturn, x_return, x_getfield, x_putfield, x_iaload, x_baload, x_laload, x_aaload, x_iastore, x_bastore, x_lastore, x_aastore, x_arraylength, x_newarray, x_anewarray, x_new, x_iload_0, x_iload_1, x_iload_2, x_iload_3, x_lload_0, x_lload_1, x_lload_2, x_lload_3, x_aload_0, x_aload_1, x_aload_2, x_aload_3, x_istore_0, x_istore_1, x_istore_2, x_istore_3, x_lstore_0, x_lstore_1, x_lstore_2, x_lstore_3, x_astore_0, x_astore_1, x_astore_2, x_astore_3, q_bipush_m3, q_bipush_m2, q_bipush_6, q_bipush_7, q_bipush_9, q_bipush_10, q_bipush_24, q_bipush_30, q_bipush_48, q_bipush_100, q_sipush_300, q_sipush_1000, q_sipush_24001, q_l0, q_l1, xtc_0_0, xtc_0_1, xtc_0_2, xtc_0_3, xtc_0_4, xtc_0_5, xtc_1_0, xtc_1_1, xtc_1_2, xtc_2_0, xtc_2_1, xtc_3_0, xtc_4_0, xtc_4_1, xtc_4_2, xtc_4_3, xtc_4_4, xtc_4_5, xtc_4_6, xtc_4_7, xtc_4_8, xtc_4_9, xtc_4_10, xtc_4_11, xtc_4_12, xtc_5_0, xtc_5_1, xtc_5_2, xtc_5_3, xtc_5_4, xtc_5_5, xtc_5_6, xtc_6_0, xtc_6_1, xtc_6_2, xtc_7_0, xtc_7_1, xtc_8_0, xtc_8_1, xtc_8_2, xtc_8_3, xtc_9_0, xtc_9_1, xtc_9_2, xtc_9_3, xtc_9_4, xtc_9_5, xtc_9_6, xtc_9_7, xtc_9_8, xtc_9_9, xtc_10_0, xtc_10_1, xtc_10_2, xtc_10_3, xtc_10_4, xtc_10_5, xtc_10_6, xtc_10_7, xtc_10_8, xtc_10_9, xtc_10_10, xtc_10_11, xtc_10_12, xtc_10_13, xtc_10_14, xtc_10_15, xtc_10_16, xtc_10_17, xtc_10_18, xtc_10_19, xtc_10_20, xtc_10_21, xtc_10_22, xtc_10_23, xtc_10_24, xtc_10_25, eq_self, reduceIte, Nat.reduceEqDiff, Nat.reduceAdd, Nat.reduceSub, Nat.zero_ne_one, Nat.one_ne_zero, Nat.succ_ne_zero, Nat.reduceLeDiff, reduceCtorEq, and_true, true_and, and_false, false_and, true_implies, false_implies, implies_true, not_true_eq_false, not_false_eq_true, xN_0, xN_s, xlook_c, xlook_n, xb_nil, xb_cons, xlen, xl_cons, xst_def, xst2_def, xdl_nil, xdl_int, xdl_ref, xdl_long, xrv_some, xfit_int, xfit_long, xfit_ref, cat_int, cat_ref, cat_long, xret_int, xret_bool, or_true, true_or, Option.some.injEq, Value.int.injEq, Value.ref.injEq, Value.long.injEq, List.getElem?_cons_zero, List.getElem?_cons_succ, List.set_cons_zero, List.set_cons_succ, List.length_cons, List.length_nil, xup_xup, Classical.not_not, Nat.reduceLT, Nat.zero_lt_succ, I_b0, hO, n1, n8, xup_self, xup_ne, ne_eq, I_add, ra_len]
  simp (disch := omega) only [I_in, ra_get, ra_set]
  refine ⟨fun e2 => ⟨by omega, by omega, Or.inr ⟨⟨e, e2⟩, trivial, ?_, ?_⟩⟩, fun e2 => Or.inl (fun q => e2 q.2)⟩
  · simp only [NetAt, putF, xup_self, xup_ne, ne_eq, Nat.reduceEqDiff, not_false_eq_true, n2, n3, n4, n5, n6, n7, n8, n9, sF]
    simp
  · intro q hq
    simp only [xup]
    repeat rw [if_neg (by omega)]
theorem w_worth (hO : ObjAt ws pv) (hN : NetAt ws S ver wv) (hw : WF S) (hd : 2 ≤ d) {a b : Int} (h1 : -2147483648 ≤ a) (h2 : a < 2147483648) (h3 : -2147483648 ≤ b) (h4 : b < 2147483648) : xM l tX9_worth d 0 0 [.ref 0, .int (I a), .int (I b)] n ws (fun r n' ws' => n' = n ∧ ((¬ ((0 ≤ a ∧ a < S.ng) ∧ (0 ≤ b ∧ b ≤ 1000)) ∧ r = some (.int (I (-2))) ∧ ws' = ws) ∨ (((0 ≤ a ∧ a < S.ng) ∧ (0 ≤ b ∧ b ≤ 1000)) ∧ r = some (.int (I (S.2 7 a.toNat))) ∧ NetAt ws' (putF S 7 a.toNat b) (ver + 1) wv ∧ ∀ q, 10 ≤ q ∨ q = 0 → ws' q = ws q))) := by
  have hN0 := hN
  obtain ⟨n1, n2, n3, n4, n5, n6, n7, n8, n9⟩ := hN
  have hb2 : S.ng ≤ 6 := hw.2.2.1
  unfold ObjAt at hO
  refine xM.of (by decide) (Nat.le_of_ble_eq_true rfl) ?_
  simp only [lv_args, cat_int, cat_ref, cat_long, reduceIte, Nat.reduceEqDiff, Nat.reduceAdd, Nat.one_ne_zero, Nat.reduceLeDiff]
  refine xN_ok (t := tX9_worth) rfl (T := AX9_worth) aX9_worth 1 _ _ _ _ _ _ _ ?_
  simp only [AX9_worth, oX9_worth_0, oX9_worth_8, oX9_worth_19, oX9_worth_22, oX9_worth_25, rX9_worth, x_iconst, x_bipush, x_sipush, x_lconst, x_iload, x_lload, x_aload, x_istore, x_lstore, x_astore, x_iinc, x_iadd, x_isub, x_imul, x_iand, x_ior, x_ixor, x_ishl, x_ishr, x_ineg, x_ladd, x_lsub, x_lmul, x_ldiv, x_lrem, x_lcmp, x_i2l, x_l2i, x_dup, x_dup_x1, x_dup2, x_if_eq, x_if_ne, x_if_lt, x_if_ge, x_if_gt, x_if_le, x_ic_eq, x_ic_ne, x_ic_lt, x_ic_ge, x_ic_gt, x_ic_le, x_goto, x_ireturn, x_lreturn, x_return, x_getfield, x_putfield, x_iaload, x_baload, x_laload, x_aaload, x_iastore, x_bastore, x_lastore, x_aastore, x_arraylength, x_newarray, x_anewarray, x_new, x_iload_0, x_iload_1, x_iload_2, x_iload_3, x_lload_0, x_lload_1, x_lload_2, x_lload_3, x_aload_0, x_aload_1, x_aload_2, x_aload_3, x_istore_0, x_istore_1, x_istore_2, x_istore_3, x_lstore_0, x_lstore_1, x_lstore_2, x_lstore_3, x_astore_0, x_astore_1, x_astore_2, x_astore_3, q_bipush_m3, q_bipush_m2, q_bipush_6, q_bipush_7, q_bipush_9, q_bipush_10, q_bipush_24, q_bipush_30, q_bipush_48, q_bipush_100, q_sipush_300, q_sipush_1000, q_sipush_24001, q_l0, q_l1, xtc_0_0, xtc_0_1, xtc_0_2, xtc_0_3, xtc_0_4, xtc_0_5, xtc_1_0, xtc_1_1, xtc_1_2, xtc_2_0, xtc_2_1, xtc_3_0, xtc_4_0, xtc_4_1, xtc_4_2, xtc_4_3, xtc_4_4, xtc_4_5, xtc_4_6, xtc_4_7, xtc_4_8, xtc_4_9, xtc_4_10, xtc_4_11, xtc_4_12, xtc_5_0, xtc_5_1, xtc_5_2, xtc_5_3, xtc_5_4, xtc_5_5, xtc_5_6, xtc_6_0, xtc_6_1, xtc_6_2, xtc_7_0, xtc_7_1, xtc_8_0, xtc_8_1, xtc_8_2, xtc_8_3, xtc_9_0, xtc_9_1, xtc_9_2, xtc_9_3, xtc_9_4, xtc_9_5, xtc_9_6, xtc_9_7, xtc_9_8, xtc_9_9, xtc_10_0, xtc_10_1, xtc_10_2, xtc_10_3, xtc_10_4, xtc_10_5, xtc_10_6, xtc_10_7, xtc_10_8, xtc_10_9, xtc_10_10, xtc_10_11, xtc_10_12, xtc_10_13, xtc_10_14, xtc_10_15, xtc_10_16, xtc_10_17, xtc_10_18, xtc_10_19, xtc_10_20, xtc_10_21, xtc_10_22, xtc_10_23, xtc_10_24, xtc_10_25, eq_self, reduceIte, Nat.reduceEqDiff, Nat.reduceAdd, Nat.reduceSub, Nat.zero_ne_one, Nat.one_ne_zero, Nat.succ_ne_zero, Nat.reduceLeDiff, reduceCtorEq, and_true, true_and, and_false, false_and, true_implies, false_implies, implies_true, not_true_eq_false, not_false_eq_true, xN_0, xN_s, xlook_c, xlook_n, xb_nil, xb_cons, xlen, xl_cons, xst_def, xst2_def, xdl_nil, xdl_int, xdl_ref, xdl_long, xrv_some, xfit_int, xfit_long, xfit_ref, cat_int, cat_ref, cat_long, xret_int, xret_bool, or_true, true_or, Option.some.injEq, Value.int.injEq, Value.ref.injEq, Value.long.injEq, List.getElem?_cons_zero, List.getElem?_cons_succ, List.set_cons_zero, List.set_cons_succ, List.length_cons, List.length_nil, xup_xup, Classical.not_not, Nat.reduceLT, Nat.zero_lt_succ, hO]
  refine cX9_worth_5 n1 (dc := 1) (cc := 0) (cs := 0) (by omega) (by omega) (by omega) (Nat.le_of_ble_eq_true rfl) (w_isGood hN0 (by omega) (by omega) h1 h2) (pureQ ?_)
  simp only [Option.toList_some, Option.toList_none, List.cons_append, List.nil_append, Nat.sub_zero, Nat.reduceSub, Nat.sub_self]
  refine xN_ok (t := tX9_worth) rfl (T := AX9_worth) aX9_worth 2 _ _ _ _ _ _ _ ?_
  simp only [AX9_worth, oX9_worth_0, oX9_worth_8, oX9_worth_19, oX9_worth_22, oX9_worth_25, rX9_worth, x_iconst, x_bipush, x_sipush, x_lconst, x_iload, x_lload, x_aload, x_istore, x_lstore, x_astore, x_iinc, x_iadd, x_isub, x_imul, x_iand, x_ior, x_ixor, x_ishl, x_ishr, x_ineg, x_ladd, x_lsub, x_lmul, x_ldiv, x_lrem, x_lcmp, x_i2l, x_l2i, x_dup, x_dup_x1, x_dup2, x_if_eq, x_if_ne, x_if_lt, x_if_ge, x_if_gt, x_if_le, x_ic_eq, x_ic_ne, x_ic_lt, x_ic_ge, x_ic_gt, x_ic_le, x_goto, x_ireturn, x_lreturn, x_return, x_getfield, x_putfield, x_iaload, x_baload, x_laload, x_aaload, x_iastore, x_bastore, x_lastore, x_aastore, x_arraylength, x_newarray, x_anewarray, x_new, x_iload_0, x_iload_1, x_iload_2, x_iload_3, x_lload_0, x_lload_1, x_lload_2, x_lload_3, x_aload_0, x_aload_1, x_aload_2, x_aload_3, x_istore_0, x_istore_1, x_istore_2, x_istore_3, x_lstore_0, x_lstore_1, x_lstore_2, x_lstore_3, x_astore_0, x_astore_1, x_astore_2, x_astore_3, q_bipush_m3, q_bipush_m2, q_bipush_6, q_bipush_7, q_bipush_9, q_bipush_10, q_bipush_24, q_bipush_30, q_bipush_48, q_bipush_100, q_sipush_300, q_sipush_1000, q_sipush_24001, q_l0, q_l1, xtc_0_0, xtc_0_1, xtc_0_2, xtc_0_3, xtc_0_4, xtc_0_5, xtc_1_0, xtc_1_1, xtc_1_2, xtc_2_0, xtc_2_1, xtc_3_0, xtc_4_0, xtc_4_1, xtc_4_2, xtc_4_3, xtc_4_4, xtc_4_5, xtc_4_6, xtc_4_7, xtc_4_8, xtc_4_9, xtc_4_10, xtc_4_11, xtc_4_12, xtc_5_0, xtc_5_1, xtc_5_2, xtc_5_3, xtc_5_4, xtc_5_5, xtc_5_6, xtc_6_0, xtc_6_1, xtc_6_2, xtc_7_0, xtc_7_1, xtc_8_0, xtc_8_1, xtc_8_2, xtc_8_3, xtc_9_0, xtc_9_1, xtc_9_2, xtc_9_3, xtc_9_4, xtc_9_5, xtc_9_6, xtc_9_7, xtc_9_8, xtc_9_9, xtc_10_0, xtc_10_1, xtc_10_2, xtc_10_3, xtc_10_4, xtc_10_5, xtc_10_6, xtc_10_7, xtc_10_8, xtc_10_9, xtc_10_10, xtc_10_11, xtc_10_12, xtc_10_13, xtc_10_14, xtc_10_15, xtc_10_16, xtc_10_17, xtc_10_18, xtc_10_19, xtc_10_20, xtc_10_21, xtc_10_22, xtc_10_23, xtc_10_24, xtc_10_25, eq_self, reduceIte, Nat.reduceEqDiff, Nat.reduceAdd, Nat.reduceSub, Nat.zero_ne_one, Nat.one_ne_zero, Nat.succ_ne_zero, Nat.reduceLeDiff, reduceCtorEq, and_true, true_and, and_false, false_and, true_implies, false_implies, implies_true, not_true_eq_false, not_false_eq_true, xN_0, xN_s, xlook_c, xlook_n, xb_nil, xb_cons, xlen, xl_cons, xst_def, xst2_def, xdl_nil, xdl_int, xdl_ref, xdl_long, xrv_some, xfit_int, xfit_long, xfit_ref, cat_int, cat_ref, cat_long, xret_int, xret_bool, or_true, true_or, Option.some.injEq, Value.int.injEq, Value.ref.injEq, Value.long.injEq, List.getElem?_cons_zero, List.getElem?_cons_succ, List.set_cons_zero, List.set_cons_succ, List.length_cons, List.length_nil, xup_xup, Classical.not_not, Nat.reduceLT, Nat.zero_lt_succ, I_b0]
  refine ⟨fun e => Or.inl (fun q => e q.1), fun e => ?_⟩
  refine cX9_worth_16 (dc := 0) (cc := 0) (cs := 0) (by omega) (by omega) (by omega) (Nat.le_of_ble_eq_true rfl) (w_isWithin l 0 _ _ (by omega) (by omega) (by omega) (by omega) (by omega) (by omega)) (pureQ ?_)
  simp only [Option.toList_some, Option.toList_none, List.cons_append, List.nil_append, Nat.sub_zero, Nat.reduceSub, Nat.sub_self]
  refine xN_ok (t := tX9_worth) rfl (T := AX9_worth) aX9_worth 3 _ _ _ _ _ _ _ ?_
  simp only [AX9_worth, oX9_worth_0, oX9_worth_8, oX9_worth_19, oX9_worth_22, oX9_worth_25, rX9_worth, x_iconst, x_bipush, x_sipush, x_lconst, x_iload, x_lload, x_aload, x_istore, x_lstore, x_astore, x_iinc, x_iadd, x_isub, x_imul, x_iand, x_ior, x_ixor, x_ishl, x_ishr, x_ineg, x_ladd, x_lsub, x_lmul, x_ldiv, x_lrem, x_lcmp, x_i2l, x_l2i, x_dup, x_dup_x1, x_dup2, x_if_eq, x_if_ne, x_if_lt, x_if_ge, x_if_gt, x_if_le, x_ic_eq, x_ic_ne, x_ic_lt, x_ic_ge, x_ic_gt, x_ic_le, x_goto, x_ireturn, x_lreturn, x_return, x_getfield, x_putfield, x_iaload, x_baload, x_laload, x_aaload, x_iastore, x_bastore, x_lastore, x_aastore, x_arraylength, x_newarray, x_anewarray, x_new, x_iload_0, x_iload_1, x_iload_2, x_iload_3, x_lload_0, x_lload_1, x_lload_2, x_lload_3, x_aload_0, x_aload_1, x_aload_2, x_aload_3, x_istore_0, x_istore_1, x_istore_2, x_istore_3, x_lstore_0, x_lstore_1, x_lstore_2, x_lstore_3, x_astore_0, x_astore_1, x_astore_2, x_astore_3, q_bipush_m3, q_bipush_m2, q_bipush_6, q_bipush_7, q_bipush_9, q_bipush_10, q_bipush_24, q_bipush_30, q_bipush_48, q_bipush_100, q_sipush_300, q_sipush_1000, q_sipush_24001, q_l0, q_l1, xtc_0_0, xtc_0_1, xtc_0_2, xtc_0_3, xtc_0_4, xtc_0_5, xtc_1_0, xtc_1_1, xtc_1_2, xtc_2_0, xtc_2_1, xtc_3_0, xtc_4_0, xtc_4_1, xtc_4_2, xtc_4_3, xtc_4_4, xtc_4_5, xtc_4_6, xtc_4_7, xtc_4_8, xtc_4_9, xtc_4_10, xtc_4_11, xtc_4_12, xtc_5_0, xtc_5_1, xtc_5_2, xtc_5_3, xtc_5_4, xtc_5_5, xtc_5_6, xtc_6_0, xtc_6_1, xtc_6_2, xtc_7_0, xtc_7_1, xtc_8_0, xtc_8_1, xtc_8_2, xtc_8_3, xtc_9_0, xtc_9_1, xtc_9_2, xtc_9_3, xtc_9_4, xtc_9_5, xtc_9_6, xtc_9_7, xtc_9_8, xtc_9_9, xtc_10_0, xtc_10_1, xtc_10_2, xtc_10_3, xtc_10_4, xtc_10_5, xtc_10_6, xtc_10_7, xtc_10_8, xtc_10_9, xtc_10_10, xtc_10_11, xtc_10_12, xtc_10_13, xtc_10_14, xtc_10_15, xtc_10_16, xtc_10_17, xtc_10_18, xtc_10_19, xtc_10_20, xtc_10_21, xtc_10_22, xtc_10_23, xtc_10_24, xtc_10_25, eq_self, reduceIte, Nat.reduceEqDiff, Nat.reduceAdd, Nat.reduceSub, Nat.zero_ne_one, Nat.one_ne_zero, Nat.succ_ne_zero, Nat.reduceLeDiff, reduceCtorEq, and_true, true_and, and_false, false_and, true_implies, false_implies, implies_true, not_true_eq_false, not_false_eq_true, xN_0, xN_s, xlook_c, xlook_n, xb_nil, xb_cons, xlen, xl_cons, xst_def, xst2_def, xdl_nil, xdl_int, xdl_ref, xdl_long, xrv_some, xfit_int, xfit_long, xfit_ref, cat_int, cat_ref, cat_long, xret_int, xret_bool, or_true, true_or, Option.some.injEq, Value.int.injEq, Value.ref.injEq, Value.long.injEq, List.getElem?_cons_zero, List.getElem?_cons_succ, List.set_cons_zero, List.set_cons_succ, List.length_cons, List.length_nil, xup_xup, Classical.not_not, Nat.reduceLT, Nat.zero_lt_succ, I_b0, hO, n1, n9, xup_self, xup_ne, ne_eq, I_add, ra_len]
  simp (disch := omega) only [I_in, ra_get, ra_set]
  refine ⟨fun e2 => ⟨by omega, by omega, Or.inr ⟨⟨e, e2⟩, trivial, ?_, ?_⟩⟩, fun e2 => Or.inl (fun q => e2 q.2)⟩
  · simp only [NetAt, putF, xup_self, xup_ne, ne_eq, Nat.reduceEqDiff, not_false_eq_true, n2, n3, n4, n5, n6, n7, n8, n9, sF]
    simp
  · intro q hq
    simp only [xup]
    repeat rw [if_neg (by omega)]
end CLS
end
section
/-! sets of nodes as bits -/
theorem I_bit : ∀ s : Nat, s < 1024 → ∀ v : Nat, v < 10 → (I s >>> (I v &&& 31)) &&& I 1 = I (if s.testBit v then 1 else 0) := by
  intro s hs v hv
  have h1 : I s = nI s := (I_nI s).symm
  have h2 : I v = nI v := (I_nI v).symm
  have hv32 : ∀ v : Nat, v < 10 → ((nI v &&& 31).toBitVec.smod 32).toNat = v := by decide +kernel
  rw [h1, h2, pk_shrN (by omega) (nI v &&& 31) v (hv32 v hv)]
  rw [show I 1 = (1 : Int32) from rfl, pk_andN (by have := Nat.div_le_self s (2 ^ v); omega) 1 (by decide)]
  rw [Nat.testBit_eq_decide_div_mod_eq, I_nI]
  have h3 : s / 2 ^ v % 2 = 0 ∨ s / 2 ^ v % 2 = 1 := by omega
  rcases h3 with h3 | h3 <;> simp [h3]
/-- an arc, or a good, leads out of the set -/
def outs (s : Nat) (a b : Int) : Bool := s.testBit a.toNat && !s.testBit b.toNat
section CUT
variable {l : Launch} {d n : Nat} {ws : xW} {S : St} {ver wv pv : Int}
theorem w_leadsOut {s : Nat} {a b : Int} (hs : s < 1024) (h1 : 0 ≤ a) (h2 : a < 10) (h3 : 0 ≤ b) (h4 : b < 10) : xM l tX4_leadsOut d 0 0 [.int (I s), .int (I a), .int (I b)] n ws (fun r n' ws' => r = some (.int (I (if outs s a b = true then 1 else 0))) ∧ n' = n ∧ ws' = ws) := by
  obtain ⟨a, rfl⟩ := Int.eq_ofNat_of_zero_le h1
  obtain ⟨b, rfl⟩ := Int.eq_ofNat_of_zero_le h3
  have e1 := I_bit s hs a (by omega)
  have e2 := I_bit s hs b (by omega)
  refine xM.of (by decide) (Nat.le_of_ble_eq_true rfl) ?_
  simp only [lv_args, cat_int, cat_ref, cat_long, reduceIte, Nat.reduceEqDiff, Nat.reduceAdd, Nat.one_ne_zero, Nat.reduceLeDiff]
  refine xN_ok (t := tX4_leadsOut) rfl (T := AX4_leadsOut) aX4_leadsOut 4 _ _ _ _ _ _ _ ?_
  simp only [AX4_leadsOut, oX4_leadsOut_0, oX4_leadsOut_21, oX4_leadsOut_22, rX4_leadsOut, x_iconst, x_bipush, x_sipush, x_lconst, x_iload, x_lload, x_aload, x_istore, x_lstore, x_astore, x_iinc, x_iadd, x_isub, x_imul, x_iand, x_ior, x_ixor, x_ishl, x_ishr, x_ineg, x_ladd, x_lsub, x_lmul, x_ldiv, x_lrem, x_lcmp, x_i2l, x_l2i, x_dup, x_dup_x1, x_dup2, x_if_eq, x_if_ne, x_if_lt, x_if_ge, x_if_gt, x_if_le, x_ic_eq, x_ic_ne, x_ic_lt, x_ic_ge, x_ic_gt, x_ic_le, x_goto, x_ireturn, x_lreturn, x_return, x_getfield, x_putfield, x_iaload, x_baload, x_laload, x_aaload, x_iastore, x_bastore, x_lastore, x_aastore, x_arraylength, x_newarray, x_anewarray, x_new, x_iload_0, x_iload_1, x_iload_2, x_iload_3, x_lload_0, x_lload_1, x_lload_2, x_lload_3, x_aload_0, x_aload_1, x_aload_2, x_aload_3, x_istore_0, x_istore_1, x_istore_2, x_istore_3, x_lstore_0, x_lstore_1, x_lstore_2, x_lstore_3, x_astore_0, x_astore_1, x_astore_2, x_astore_3, q_bipush_m3, q_bipush_m2, q_bipush_6, q_bipush_7, q_bipush_9, q_bipush_10, q_bipush_24, q_bipush_30, q_bipush_48, q_bipush_100, q_sipush_300, q_sipush_1000, q_sipush_24001, q_l0, q_l1, xtc_0_0, xtc_0_1, xtc_0_2, xtc_0_3, xtc_0_4, xtc_0_5, xtc_1_0, xtc_1_1, xtc_1_2, xtc_2_0, xtc_2_1, xtc_3_0, xtc_4_0, xtc_4_1, xtc_4_2, xtc_4_3, xtc_4_4, xtc_4_5, xtc_4_6, xtc_4_7, xtc_4_8, xtc_4_9, xtc_4_10, xtc_4_11, xtc_4_12, xtc_5_0, xtc_5_1, xtc_5_2, xtc_5_3, xtc_5_4, xtc_5_5, xtc_5_6, xtc_6_0, xtc_6_1, xtc_6_2, xtc_7_0, xtc_7_1, xtc_8_0, xtc_8_1, xtc_8_2, xtc_8_3, xtc_9_0, xtc_9_1, xtc_9_2, xtc_9_3, xtc_9_4, xtc_9_5, xtc_9_6, xtc_9_7, xtc_9_8, xtc_9_9, xtc_10_0, xtc_10_1, xtc_10_2, xtc_10_3, xtc_10_4, xtc_10_5, xtc_10_6, xtc_10_7, xtc_10_8, xtc_10_9, xtc_10_10, xtc_10_11, xtc_10_12, xtc_10_13, xtc_10_14, xtc_10_15, xtc_10_16, xtc_10_17, xtc_10_18, xtc_10_19, xtc_10_20, xtc_10_21, xtc_10_22, xtc_10_23, xtc_10_24, xtc_10_25, eq_self, reduceIte, Nat.reduceEqDiff, Nat.reduceAdd, Nat.reduceSub, Nat.zero_ne_one, Nat.one_ne_zero, Nat.succ_ne_zero, Nat.reduceLeDiff, reduceCtorEq, and_true, true_and, and_false, false_and, true_implies, false_implies, implies_true, not_true_eq_false, not_false_eq_true, xN_0, xN_s, xlook_c, xlook_n, xb_nil, xb_cons, xlen, xl_cons, xst_def, xst2_def, xdl_nil, xdl_int, xdl_ref, xdl_long, xrv_some, xfit_int, xfit_long, xfit_ref, cat_int, cat_ref, cat_long, xret_int, xret_bool, or_true, true_or, Option.some.injEq, Value.int.injEq, Value.ref.injEq, Value.long.injEq, List.getElem?_cons_zero, List.getElem?_cons_succ, List.set_cons_zero, List.set_cons_succ, List.length_cons, List.length_nil, xup_xup, Classical.not_not, Nat.reduceLT, Nat.zero_lt_succ, e1, e2]
  simp only [outs, Int.toNat_natCast]
  by_cases ha : s.testBit a = true <;> by_cases hb : s.testBit b = true <;> simp [ha, hb] <;> decide
theorem w_demandOutOf (hN : NetAt ws S ver wv) (hw : WF S) (hd : 1 ≤ d) {s : Nat} (hs : s < 1024) : xM l tX4_demandOutOf d 0 0 [.ref 1, .int (I s)] n ws (fun r n' ws' => r = some (.int (I (sm (fun g => if outs s (S.2 4 g) (S.2 5 g) = true then S.2 6 g else 0) S.ng))) ∧ n' = n ∧ ws' = ws) := by
  obtain ⟨n1, n2, n3, n4, n5, n6, n7, n8, n9⟩ := hN
  have hb : S.ng ≤ 6 := hw.2.2.1
  generalize hQ : (fun (r : Option Value) (n' : Nat) (ws' : xW) => r = some (.int (I (sm (fun g => if outs s (S.2 4 g) (S.2 5 g) = true then S.2 6 g else 0) S.ng))) ∧ n' = n ∧ ws' = ws) = Q
  refine xM.of (by decide) (Nat.le_of_ble_eq_true rfl) ?_
  simp only [lv_args, cat_int, cat_ref, cat_long, reduceIte, Nat.reduceEqDiff, Nat.reduceAdd, Nat.one_ne_zero, Nat.reduceLeDiff]
  have loop : ∀ j i : Nat, i + j = S.ng → xX l tX4_demandOutOf d 0 0 Q 0 0 4 [(0, .ref 1), (1, .int (I s)), (2, .int (I (sm (fun g => if outs s (S.2 4 g) (S.2 5 g) = true then S.2 6 g else 0) i))), (3, .int (I i))] [] n ws := by
    intro j
    induction j with
    | zero =>
      intro i hi
      have e : i = S.ng := by omega
      refine xL_ok (t := tX4_demandOutOf) rfl (ops := oX4_demandOutOf_4) (by decide +kernel) (T := [(0, oX4_demandOutOf_0), (28, oX4_demandOutOf_28), (40, oX4_demandOutOf_40), (46, oX4_demandOutOf_46)]) (by decide +kernel) 2 ?_
      simp only [oX4_demandOutOf_0, oX4_demandOutOf_28, oX4_demandOutOf_40, oX4_demandOutOf_46, oX4_demandOutOf_4, rX4_demandOutOf, x_iconst, x_bipush, x_sipush, x_lconst, x_iload, x_lload, x_aload, x_istore, x_lstore, x_astore, x_iinc, x_iadd, x_isub, x_imul, x_iand, x_ior, x_ixor, x_ishl, x_ishr, x_ineg, x_ladd, x_lsub, x_lmul, x_ldiv, x_lrem, x_lcmp, x_i2l, x_l2i, x_dup, x_dup_x1, x_dup2, x_if_eq, x_if_ne, x_if_lt, x_if_ge, x_if_gt, x_if_le, x_ic_eq, x_ic_ne, x_ic_lt, x_ic_ge, x_ic_gt, x_ic_le, x_goto, x_ireturn, x_lreturn, x_return, x_getfield, x_putfield, x_iaload, x_baload, x_laload, x_aaload, x_iastore, x_bastore, x_lastore, x_aastore, x_arraylength, x_newarray, x_anewarray, x_new, x_iload_0, x_iload_1, x_iload_2, x_iload_3, x_lload_0, x_lload_1, x_lload_2, x_lload_3, x_aload_0, x_aload_1, x_aload_2, x_aload_3, x_istore_0, x_istore_1, x_istore_2, x_istore_3, x_lstore_0, x_lstore_1, x_lstore_2, x_lstore_3, x_astore_0, x_astore_1, x_astore_2, x_astore_3, q_bipush_m3, q_bipush_m2, q_bipush_6, q_bipush_7, q_bipush_9, q_bipush_10, q_bipush_24, q_bipush_30, q_bipush_48, q_bipush_100, q_sipush_300, q_sipush_1000, q_sipush_24001, q_l0, q_l1, xtc_0_0, xtc_0_1, xtc_0_2, xtc_0_3, xtc_0_4, xtc_0_5, xtc_1_0, xtc_1_1, xtc_1_2, xtc_2_0, xtc_2_1, xtc_3_0, xtc_4_0, xtc_4_1, xtc_4_2, xtc_4_3, xtc_4_4, xtc_4_5, xtc_4_6, xtc_4_7, xtc_4_8, xtc_4_9, xtc_4_10, xtc_4_11, xtc_4_12, xtc_5_0, xtc_5_1, xtc_5_2, xtc_5_3, xtc_5_4, xtc_5_5, xtc_5_6, xtc_6_0, xtc_6_1, xtc_6_2, xtc_7_0, xtc_7_1, xtc_8_0, xtc_8_1, xtc_8_2, xtc_8_3, xtc_9_0, xtc_9_1, xtc_9_2, xtc_9_3, xtc_9_4, xtc_9_5, xtc_9_6, xtc_9_7, xtc_9_8, xtc_9_9, xtc_10_0, xtc_10_1, xtc_10_2, xtc_10_3, xtc_10_4, xtc_10_5, xtc_10_6, xtc_10_7, xtc_10_8, xtc_10_9, xtc_10_10, xtc_10_11, xtc_10_12, xtc_10_13, xtc_10_14, xtc_10_15, xtc_10_16, xtc_10_17, xtc_10_18, xtc_10_19, xtc_10_20, xtc_10_21, xtc_10_22, xtc_10_23, xtc_10_24, xtc_10_25, eq_self, reduceIte, Nat.reduceEqDiff, Nat.reduceAdd, Nat.reduceSub, Nat.zero_ne_one, Nat.one_ne_zero, Nat.succ_ne_zero, Nat.reduceLeDiff, reduceCtorEq, and_true, true_and, and_false, false_and, true_implies, false_implies, implies_true, not_true_eq_false, not_false_eq_true, xN_0, xN_s, xlook_c, xlook_n, xb_nil, xb_cons, xlen, xl_cons, xst_def, xst2_def, xdl_nil, xdl_int, xdl_ref, xdl_long, xrv_some, xfit_int, xfit_long, xfit_ref, cat_int, cat_ref, cat_long, xret_int, xret_bool, or_true, true_or, Option.some.injEq, Value.int.injEq, Value.ref.injEq, Value.long.injEq, List.getElem?_cons_zero, List.getElem?_cons_succ, List.set_cons_zero, List.set_cons_succ, List.length_cons, List.length_nil, xup_xup, Classical.not_not, Nat.reduceLT, Nat.zero_lt_succ, n1, n6, n7, ra_len]
      simp (disch := omega) only [I_lt, I_le, I_eq, I_in, I_add, I_sub, I_mul, I_b0, I_b01, b_eq0, b_eq1, Classical.not_not, ra_get, ra_set, ra_len, Int.toNat_natCast, eq_self, true_and, and_true, ne_eq, not_false_eq_true, not_true_eq_false]
      refine ⟨fun _ => ?_, fun h => absurd h (by omega)⟩
      rw [← hQ, e]
      exact ⟨rfl, rfl, rfl⟩
    | succ j ih =>
      intro i hi
      obtain ⟨p1, p2, p3, p4, p5, p6, p7, -, -⟩ := hw.2.2.2.2 i (by omega)
      have hn := hw.1
      refine xL_ok (t := tX4_demandOutOf) rfl (ops := oX4_demandOutOf_4) (by decide +kernel) (T := [(0, oX4_demandOutOf_0), (28, oX4_demandOutOf_28), (40, oX4_demandOutOf_40), (46, oX4_demandOutOf_46)]) (by decide +kernel) 2 ?_
      simp only [oX4_demandOutOf_0, oX4_demandOutOf_28, oX4_demandOutOf_40, oX4_demandOutOf_46, oX4_demandOutOf_4, rX4_demandOutOf, x_iconst, x_bipush, x_sipush, x_lconst, x_iload, x_lload, x_aload, x_istore, x_lstore, x_astore, x_iinc, x_iadd, x_isub, x_imul, x_iand, x_ior, x_ixor, x_ishl, x_ishr, x_ineg, x_ladd, x_lsub, x_lmul, x_ldiv, x_lrem, x_lcmp, x_i2l, x_l2i, x_dup, x_dup_x1, x_dup2, x_if_eq, x_if_ne, x_if_lt, x_if_ge, x_if_gt, x_if_le, x_ic_eq, x_ic_ne, x_ic_lt, x_ic_ge, x_ic_gt, x_ic_le, x_goto, x_ireturn, x_lreturn, x_return, x_getfield, x_putfield, x_iaload, x_baload, x_laload, x_aaload, x_iastore, x_bastore, x_lastore, x_aastore, x_arraylength, x_newarray, x_anewarray, x_new, x_iload_0, x_iload_1, x_iload_2, x_iload_3, x_lload_0, x_lload_1, x_lload_2, x_lload_3, x_aload_0, x_aload_1, x_aload_2, x_aload_3, x_istore_0, x_istore_1, x_istore_2, x_istore_3, x_lstore_0, x_lstore_1, x_lstore_2, x_lstore_3, x_astore_0, x_astore_1, x_astore_2, x_astore_3, q_bipush_m3, q_bipush_m2, q_bipush_6, q_bipush_7, q_bipush_9, q_bipush_10, q_bipush_24, q_bipush_30, q_bipush_48, q_bipush_100, q_sipush_300, q_sipush_1000, q_sipush_24001, q_l0, q_l1, xtc_0_0, xtc_0_1, xtc_0_2, xtc_0_3, xtc_0_4, xtc_0_5, xtc_1_0, xtc_1_1, xtc_1_2, xtc_2_0, xtc_2_1, xtc_3_0, xtc_4_0, xtc_4_1, xtc_4_2, xtc_4_3, xtc_4_4, xtc_4_5, xtc_4_6, xtc_4_7, xtc_4_8, xtc_4_9, xtc_4_10, xtc_4_11, xtc_4_12, xtc_5_0, xtc_5_1, xtc_5_2, xtc_5_3, xtc_5_4, xtc_5_5, xtc_5_6, xtc_6_0, xtc_6_1, xtc_6_2, xtc_7_0, xtc_7_1, xtc_8_0, xtc_8_1, xtc_8_2, xtc_8_3, xtc_9_0, xtc_9_1, xtc_9_2, xtc_9_3, xtc_9_4, xtc_9_5, xtc_9_6, xtc_9_7, xtc_9_8, xtc_9_9, xtc_10_0, xtc_10_1, xtc_10_2, xtc_10_3, xtc_10_4, xtc_10_5, xtc_10_6, xtc_10_7, xtc_10_8, xtc_10_9, xtc_10_10, xtc_10_11, xtc_10_12, xtc_10_13, xtc_10_14, xtc_10_15, xtc_10_16, xtc_10_17, xtc_10_18, xtc_10_19, xtc_10_20, xtc_10_21, xtc_10_22, xtc_10_23, xtc_10_24, xtc_10_25, eq_self, reduceIte, Nat.reduceEqDiff, Nat.reduceAdd, Nat.reduceSub, Nat.zero_ne_one, Nat.one_ne_zero, Nat.succ_ne_zero, Nat.reduceLeDiff, reduceCtorEq, and_true, true_and, and_false, false_and, true_implies, false_implies, implies_true, not_true_eq_false, not_false_eq_true, xN_0, xN_s, xlook_c, xlook_n, xb_nil, xb_cons, xlen, xl_cons, xst_def, xst2_def, xdl_nil, xdl_int, xdl_ref, xdl_long, xrv_some, xfit_int, xfit_long, xfit_ref, cat_int, cat_ref, cat_long, xret_int, xret_bool, or_true, true_or, Option.some.injEq, Value.int.injEq, Value.ref.injEq, Value.long.injEq, List.getElem?_cons_zero, List.getElem?_cons_succ, List.set_cons_zero, List.set_cons_succ, List.length_cons, List.length_nil, xup_xup, Classical.not_not, Nat.reduceLT, Nat.zero_lt_succ, n1, n6, n7, ra_len]
      simp (disch := omega) only [I_lt, I_le, I_eq, I_in, I_add, I_sub, I_mul, I_b0, I_b01, b_eq0, b_eq1, Classical.not_not, ra_get, ra_set, ra_len, Int.toNat_natCast, eq_self, true_and, and_true, ne_eq, not_false_eq_true, not_true_eq_false]
      refine ⟨fun h => absurd h (by omega), fun _ => ⟨by omega, by omega, ?_⟩⟩
      refine cX4_demandOutOf_25 (dc := 0) (cc := 0) (cs := 0) (by omega) (by omega) (by omega) (Nat.le_of_ble_eq_true rfl) (w_leadsOut hs p1 (by omega) p3 (by omega)) (pureQ ?_)
      simp only [Option.toList_some, Option.toList_none, List.cons_append, List.nil_append, Nat.sub_zero, Nat.reduceSub, Nat.sub_self]
      refine xN_ok (t := tX4_demandOutOf) rfl (T := [(0, oX4_demandOutOf_0), (28, oX4_demandOutOf_28), (40, oX4_demandOutOf_40), (46, oX4_demandOutOf_46)]) (by decide +kernel) 3 _ _ _ _ _ _ _ ?_
      simp only [oX4_demandOutOf_0, oX4_demandOutOf_28, oX4_demandOutOf_40, oX4_demandOutOf_46, rX4_demandOutOf, x_iconst, x_bipush, x_sipush, x_lconst, x_iload, x_lload, x_aload, x_istore, x_lstore, x_astore, x_iinc, x_iadd, x_isub, x_imul, x_iand, x_ior, x_ixor, x_ishl, x_ishr, x_ineg, x_ladd, x_lsub, x_lmul, x_ldiv, x_lrem, x_lcmp, x_i2l, x_l2i, x_dup, x_dup_x1, x_dup2, x_if_eq, x_if_ne, x_if_lt, x_if_ge, x_if_gt, x_if_le, x_ic_eq, x_ic_ne, x_ic_lt, x_ic_ge, x_ic_gt, x_ic_le, x_goto, x_ireturn, x_lreturn, x_return, x_getfield, x_putfield, x_iaload, x_baload, x_laload, x_aaload, x_iastore, x_bastore, x_lastore, x_aastore, x_arraylength, x_newarray, x_anewarray, x_new, x_iload_0, x_iload_1, x_iload_2, x_iload_3, x_lload_0, x_lload_1, x_lload_2, x_lload_3, x_aload_0, x_aload_1, x_aload_2, x_aload_3, x_istore_0, x_istore_1, x_istore_2, x_istore_3, x_lstore_0, x_lstore_1, x_lstore_2, x_lstore_3, x_astore_0, x_astore_1, x_astore_2, x_astore_3, q_bipush_m3, q_bipush_m2, q_bipush_6, q_bipush_7, q_bipush_9, q_bipush_10, q_bipush_24, q_bipush_30, q_bipush_48, q_bipush_100, q_sipush_300, q_sipush_1000, q_sipush_24001, q_l0, q_l1, xtc_0_0, xtc_0_1, xtc_0_2, xtc_0_3, xtc_0_4, xtc_0_5, xtc_1_0, xtc_1_1, xtc_1_2, xtc_2_0, xtc_2_1, xtc_3_0, xtc_4_0, xtc_4_1, xtc_4_2, xtc_4_3, xtc_4_4, xtc_4_5, xtc_4_6, xtc_4_7, xtc_4_8, xtc_4_9, xtc_4_10, xtc_4_11, xtc_4_12, xtc_5_0, xtc_5_1, xtc_5_2, xtc_5_3, xtc_5_4, xtc_5_5, xtc_5_6, xtc_6_0, xtc_6_1, xtc_6_2, xtc_7_0, xtc_7_1, xtc_8_0, xtc_8_1, xtc_8_2, xtc_8_3, xtc_9_0, xtc_9_1, xtc_9_2, xtc_9_3, xtc_9_4, xtc_9_5, xtc_9_6, xtc_9_7, xtc_9_8, xtc_9_9, xtc_10_0, xtc_10_1, xtc_10_2, xtc_10_3, xtc_10_4, xtc_10_5, xtc_10_6, xtc_10_7, xtc_10_8, xtc_10_9, xtc_10_10, xtc_10_11, xtc_10_12, xtc_10_13, xtc_10_14, xtc_10_15, xtc_10_16, xtc_10_17, xtc_10_18, xtc_10_19, xtc_10_20, xtc_10_21, xtc_10_22, xtc_10_23, xtc_10_24, xtc_10_25, eq_self, reduceIte, Nat.reduceEqDiff, Nat.reduceAdd, Nat.reduceSub, Nat.zero_ne_one, Nat.one_ne_zero, Nat.succ_ne_zero, Nat.reduceLeDiff, reduceCtorEq, and_true, true_and, and_false, false_and, true_implies, false_implies, implies_true, not_true_eq_false, not_false_eq_true, xN_0, xN_s, xlook_c, xlook_n, xb_nil, xb_cons, xlen, xl_cons, xst_def, xst2_def, xdl_nil, xdl_int, xdl_ref, xdl_long, xrv_some, xfit_int, xfit_long, xfit_ref, cat_int, cat_ref, cat_long, xret_int, xret_bool, or_true, true_or, Option.some.injEq, Value.int.injEq, Value.ref.injEq, Value.long.injEq, List.getElem?_cons_zero, List.getElem?_cons_succ, List.set_cons_zero, List.set_cons_succ, List.length_cons, List.length_nil, xup_xup, Classical.not_not, Nat.reduceLT, Nat.zero_lt_succ, n1, n8, ra_len]
      simp (disch := omega) only [I_lt, I_le, I_eq, I_in, I_add, I_sub, I_mul, I_b0, I_b01, b_eq0, b_eq1, Classical.not_not, ra_get, ra_set, ra_len, Int.toNat_natCast, eq_self, true_and, and_true, ne_eq, not_false_eq_true, not_true_eq_false]
      refine ⟨fun h => ?_, fun h => ⟨by omega, ?_⟩⟩
      · exact xX.loc _ (by simp [sm, h]) (ih (i + 1) (by omega))
      · exact xX.loc _ (by simp [sm, h]) (ih (i + 1) (by omega))
  refine xN_ok (t := tX4_demandOutOf) rfl (T := AX4_demandOutOf) aX4_demandOutOf 1 _ _ _ _ _ _ _ ?_
  simp only [AX4_demandOutOf, oX4_demandOutOf_0, oX4_demandOutOf_4, oX4_demandOutOf_28, oX4_demandOutOf_40, oX4_demandOutOf_46, rX4_demandOutOf, x_iconst, x_bipush, x_sipush, x_lconst, x_iload, x_lload, x_aload, x_istore, x_lstore, x_astore, x_iinc, x_iadd, x_isub, x_imul, x_iand, x_ior, x_ixor, x_ishl, x_ishr, x_ineg, x_ladd, x_lsub, x_lmul, x_ldiv, x_lrem, x_lcmp, x_i2l, x_l2i, x_dup, x_dup_x1, x_dup2, x_if_eq, x_if_ne, x_if_lt, x_if_ge, x_if_gt, x_if_le, x_ic_eq, x_ic_ne, x_ic_lt, x_ic_ge, x_ic_gt, x_ic_le, x_goto, x_ireturn, x_lreturn, x_return, x_getfield, x_putfield, x_iaload, x_baload, x_laload, x_aaload, x_iastore, x_bastore, x_lastore, x_aastore, x_arraylength, x_newarray, x_anewarray, x_new, x_iload_0, x_iload_1, x_iload_2, x_iload_3, x_lload_0, x_lload_1, x_lload_2, x_lload_3, x_aload_0, x_aload_1, x_aload_2, x_aload_3, x_istore_0, x_istore_1, x_istore_2, x_istore_3, x_lstore_0, x_lstore_1, x_lstore_2, x_lstore_3, x_astore_0, x_astore_1, x_astore_2, x_astore_3, q_bipush_m3, q_bipush_m2, q_bipush_6, q_bipush_7, q_bipush_9, q_bipush_10, q_bipush_24, q_bipush_30, q_bipush_48, q_bipush_100, q_sipush_300, q_sipush_1000, q_sipush_24001, q_l0, q_l1, xtc_0_0, xtc_0_1, xtc_0_2, xtc_0_3, xtc_0_4, xtc_0_5, xtc_1_0, xtc_1_1, xtc_1_2, xtc_2_0, xtc_2_1, xtc_3_0, xtc_4_0, xtc_4_1, xtc_4_2, xtc_4_3, xtc_4_4, xtc_4_5, xtc_4_6, xtc_4_7, xtc_4_8, xtc_4_9, xtc_4_10, xtc_4_11, xtc_4_12, xtc_5_0, xtc_5_1, xtc_5_2, xtc_5_3, xtc_5_4, xtc_5_5, xtc_5_6, xtc_6_0, xtc_6_1, xtc_6_2, xtc_7_0, xtc_7_1, xtc_8_0, xtc_8_1, xtc_8_2, xtc_8_3, xtc_9_0, xtc_9_1, xtc_9_2, xtc_9_3, xtc_9_4, xtc_9_5, xtc_9_6, xtc_9_7, xtc_9_8, xtc_9_9, xtc_10_0, xtc_10_1, xtc_10_2, xtc_10_3, xtc_10_4, xtc_10_5, xtc_10_6, xtc_10_7, xtc_10_8, xtc_10_9, xtc_10_10, xtc_10_11, xtc_10_12, xtc_10_13, xtc_10_14, xtc_10_15, xtc_10_16, xtc_10_17, xtc_10_18, xtc_10_19, xtc_10_20, xtc_10_21, xtc_10_22, xtc_10_23, xtc_10_24, xtc_10_25, eq_self, reduceIte, Nat.reduceEqDiff, Nat.reduceAdd, Nat.reduceSub, Nat.zero_ne_one, Nat.one_ne_zero, Nat.succ_ne_zero, Nat.reduceLeDiff, reduceCtorEq, and_true, true_and, and_false, false_and, true_implies, false_implies, implies_true, not_true_eq_false, not_false_eq_true, xN_0, xN_s, xlook_c, xlook_n, xb_nil, xb_cons, xlen, xl_cons, xst_def, xst2_def, xdl_nil, xdl_int, xdl_ref, xdl_long, xrv_some, xfit_int, xfit_long, xfit_ref, cat_int, cat_ref, cat_long, xret_int, xret_bool, or_true, true_or, Option.some.injEq, Value.int.injEq, Value.ref.injEq, Value.long.injEq, List.getElem?_cons_zero, List.getElem?_cons_succ, List.set_cons_zero, List.set_cons_succ, List.length_cons, List.length_nil, xup_xup, Classical.not_not, Nat.reduceLT, Nat.zero_lt_succ]
  exact xX.loc _ (by simp [sm]) (loop S.ng 0 (by omega))
/-- what leads out of a set, together -/
def capOut (S : St) (s : Nat) : Int := sm (fun i => if outs s (S.2 0 i) (S.2 1 i) = true then S.2 2 i else 0) S.na
def demOut (S : St) (s : Nat) : Int := sm (fun g => if outs s (S.2 4 g) (S.2 5 g) = true then S.2 6 g else 0) S.ng
def cutB (S : St) (s : Nat) : Bool := decide (capOut S s < demOut S s)
theorem sm_mono {f : Nat → Int} : ∀ {k m : Nat}, k ≤ m → (∀ i, i < m → 0 ≤ f i) → sm f k ≤ sm f m := by
  intro k m h hf
  induction m with
  | zero => have : k = 0 := by omega
            rw [this]; exact Int.le_refl _
  | succ m ih =>
    by_cases e : k = m + 1
    · rw [e]; exact Int.le_refl _
    · have h1 := ih (by omega) (fun i hi => hf i (by omega))
      have h2 := hf m (by omega)
      show sm f k ≤ sm f m + f m
      omega
theorem demOut_bd (hw : WF S) (s : Nat) : 0 ≤ demOut S s ∧ demOut S s ≤ 6000 := by
  have hb : S.ng ≤ 6 := hw.2.2.1
  have := sm_bd (f := fun g => if outs s (S.2 4 g) (S.2 5 g) = true then S.2 6 g else 0) (B := 1000) S.ng (fun g hg => by
    obtain ⟨p1, p2, p3, p4, p5, p6, p7, -, -⟩ := hw.2.2.2.2 g hg
    by_cases h : outs s (S.2 4 g) (S.2 5 g) = true <;> simp [h] <;> omega)
  unfold demOut
  omega
theorem w_isCut (hN : NetAt ws S ver wv) (hw : WF S) (hd : 2 ≤ d) {s : Nat} (hs : s < 1024) : xM l tX4_isCut d 0 0 [.ref 1, .int (I s)] n ws (fun r n' ws' => r = some (.int (I (if cutB S s = true then 1 else 0))) ∧ n' = n ∧ ws' = ws) := by
  have hN0 := hN
  obtain ⟨n1, n2, n3, n4, n5, n6, n7, n8, n9⟩ := hN
  have hb : S.na ≤ 24 := hw.2.1
  have hD := demOut_bd hw s
  have hpos : ∀ i, i < S.na → 0 ≤ (fun i => if outs s (S.2 0 i) (S.2 1 i) = true then S.2 2 i else 0) i ∧ (fun i => if outs s (S.2 0 i) (S.2 1 i) = true then S.2 2 i else 0) i ≤ 1000 := by
    intro i hi
    obtain ⟨-, -, -, -, -, q1, q2, -, -⟩ := hw.2.2.2.1 i hi
    by_cases h : outs s (S.2 0 i) (S.2 1 i) = true <;> simp [h] <;> omega
  generalize hQ : (fun (r : Option Value) (n' : Nat) (ws' : xW) => r = some (.int (I (if cutB S s = true then 1 else 0))) ∧ n' = n ∧ ws' = ws) = Q
  refine xM.of (by decide) (Nat.le_of_ble_eq_true rfl) ?_
  simp only [lv_args, cat_int, cat_ref, cat_long, reduceIte, Nat.reduceEqDiff, Nat.reduceAdd, Nat.one_ne_zero, Nat.reduceLeDiff]
  refine xN_ok (t := tX4_isCut) rfl (T := AX4_isCut) aX4_isCut 1 _ _ _ _ _ _ _ ?_
  simp only [AX4_isCut, oX4_isCut_0, oX4_isCut_5, oX4_isCut_8, oX4_isCut_36, oX4_isCut_48, oX4_isCut_54, oX4_isCut_62, oX4_isCut_63, rX4_isCut, x_iconst, x_bipush, x_sipush, x_lconst, x_iload, x_lload, x_aload, x_istore, x_lstore, x_astore, x_iinc, x_iadd, x_isub, x_imul, x_iand, x_ior, x_ixor, x_ishl, x_ishr, x_ineg, x_ladd, x_lsub, x_lmul, x_ldiv, x_lrem, x_lcmp, x_i2l, x_l2i, x_dup, x_dup_x1, x_dup2, x_if_eq, x_if_ne, x_if_lt, x_if_ge, x_if_gt, x_if_le, x_ic_eq, x_ic_ne, x_ic_lt, x_ic_ge, x_ic_gt, x_ic_le, x_goto, x_ireturn, x_lreturn, x_return, x_getfield, x_putfield, x_iaload, x_baload, x_laload, x_aaload, x_iastore, x_bastore, x_lastore, x_aastore, x_arraylength, x_newarray, x_anewarray, x_new, x_iload_0, x_iload_1, x_iload_2, x_iload_3, x_lload_0, x_lload_1, x_lload_2, x_lload_3, x_aload_0, x_aload_1, x_aload_2, x_aload_3, x_istore_0, x_istore_1, x_istore_2, x_istore_3, x_lstore_0, x_lstore_1, x_lstore_2, x_lstore_3, x_astore_0, x_astore_1, x_astore_2, x_astore_3, q_bipush_m3, q_bipush_m2, q_bipush_6, q_bipush_7, q_bipush_9, q_bipush_10, q_bipush_24, q_bipush_30, q_bipush_48, q_bipush_100, q_sipush_300, q_sipush_1000, q_sipush_24001, q_l0, q_l1, xtc_0_0, xtc_0_1, xtc_0_2, xtc_0_3, xtc_0_4, xtc_0_5, xtc_1_0, xtc_1_1, xtc_1_2, xtc_2_0, xtc_2_1, xtc_3_0, xtc_4_0, xtc_4_1, xtc_4_2, xtc_4_3, xtc_4_4, xtc_4_5, xtc_4_6, xtc_4_7, xtc_4_8, xtc_4_9, xtc_4_10, xtc_4_11, xtc_4_12, xtc_5_0, xtc_5_1, xtc_5_2, xtc_5_3, xtc_5_4, xtc_5_5, xtc_5_6, xtc_6_0, xtc_6_1, xtc_6_2, xtc_7_0, xtc_7_1, xtc_8_0, xtc_8_1, xtc_8_2, xtc_8_3, xtc_9_0, xtc_9_1, xtc_9_2, xtc_9_3, xtc_9_4, xtc_9_5, xtc_9_6, xtc_9_7, xtc_9_8, xtc_9_9, xtc_10_0, xtc_10_1, xtc_10_2, xtc_10_3, xtc_10_4, xtc_10_5, xtc_10_6, xtc_10_7, xtc_10_8, xtc_10_9, xtc_10_10, xtc_10_11, xtc_10_12, xtc_10_13, xtc_10_14, xtc_10_15, xtc_10_16, xtc_10_17, xtc_10_18, xtc_10_19, xtc_10_20, xtc_10_21, xtc_10_22, xtc_10_23, xtc_10_24, xtc_10_25, eq_self, reduceIte, Nat.reduceEqDiff, Nat.reduceAdd, Nat.reduceSub, Nat.zero_ne_one, Nat.one_ne_zero, Nat.succ_ne_zero, Nat.reduceLeDiff, reduceCtorEq, and_true, true_and, and_false, false_and, true_implies, false_implies, implies_true, not_true_eq_false, not_false_eq_true, xN_0, xN_s, xlook_c, xlook_n, xb_nil, xb_cons, xlen, xl_cons, xst_def, xst2_def, xdl_nil, xdl_int, xdl_ref, xdl_long, xrv_some, xfit_int, xfit_long, xfit_ref, cat_int, cat_ref, cat_long, xret_int, xret_bool, or_true, true_or, Option.some.injEq, Value.int.injEq, Value.ref.injEq, Value.long.injEq, List.getElem?_cons_zero, List.getElem?_cons_succ, List.set_cons_zero, List.set_cons_succ, List.length_cons, List.length_nil, xup_xup, Classical.not_not, Nat.reduceLT, Nat.zero_lt_succ]
  refine cX4_isCut_2 n1 (dc := 1) (cc := 0) (cs := 0) (by omega) (by omega) (by omega) (Nat.le_of_ble_eq_true rfl) (w_demandOutOf hN0 hw (by omega) hs) (pureQ ?_)
  simp only [Option.toList_some, Option.toList_none, List.cons_append, List.nil_append, Nat.sub_zero, Nat.reduceSub, Nat.sub_self]
  have loop : ∀ j i : Nat, i + j = S.na → xX l tX4_isCut d 0 0 Q 0 0 8 [(0, .ref 1), (1, .int (I s)), (2, .int (I (demOut S s - sm (fun i => if outs s (S.2 0 i) (S.2 1 i) = true then S.2 2 i else 0) i))), (3, .int (I i))] [] n ws := by
    intro j
    induction j with
    | zero =>
      intro i hi
      have e : i = S.na := by omega
      have hb2 := sm_bd i (fun k hk => hpos k (by omega))
      refine xL_ok (t := tX4_isCut) rfl (ops := oX4_isCut_8) (by decide +kernel) (T := [(0, oX4_isCut_0), (5, oX4_isCut_5), (36, oX4_isCut_36), (48, oX4_isCut_48), (54, oX4_isCut_54), (62, oX4_isCut_62), (63, oX4_isCut_63)]) (by decide +kernel) 4 ?_
      simp only [oX4_isCut_0, oX4_isCut_5, oX4_isCut_36, oX4_isCut_48, oX4_isCut_54, oX4_isCut_62, oX4_isCut_63, oX4_isCut_8, rX4_isCut, x_iconst, x_bipush, x_sipush, x_lconst, x_iload, x_lload, x_aload, x_istore, x_lstore, x_astore, x_iinc, x_iadd, x_isub, x_imul, x_iand, x_ior, x_ixor, x_ishl, x_ishr, x_ineg, x_ladd, x_lsub, x_lmul, x_ldiv, x_lrem, x_lcmp, x_i2l, x_l2i, x_dup, x_dup_x1, x_dup2, x_if_eq, x_if_ne, x_if_lt, x_if_ge, x_if_gt, x_if_le, x_ic_eq, x_ic_ne, x_ic_lt, x_ic_ge, x_ic_gt, x_ic_le, x_goto, x_ireturn, x_lreturn, x_return, x_getfield, x_putfield, x_iaload, x_baload, x_laload, x_aaload, x_iastore, x_bastore, x_lastore, x_aastore, x_arraylength, x_newarray, x_anewarray, x_new, x_iload_0, x_iload_1, x_iload_2, x_iload_3, x_lload_0, x_lload_1, x_lload_2, x_lload_3, x_aload_0, x_aload_1, x_aload_2, x_aload_3, x_istore_0, x_istore_1, x_istore_2, x_istore_3, x_lstore_0, x_lstore_1, x_lstore_2, x_lstore_3, x_astore_0, x_astore_1, x_astore_2, x_astore_3, q_bipush_m3, q_bipush_m2, q_bipush_6, q_bipush_7, q_bipush_9, q_bipush_10, q_bipush_24, q_bipush_30, q_bipush_48, q_bipush_100, q_sipush_300, q_sipush_1000, q_sipush_24001, q_l0, q_l1, xtc_0_0, xtc_0_1, xtc_0_2, xtc_0_3, xtc_0_4, xtc_0_5, xtc_1_0, xtc_1_1, xtc_1_2, xtc_2_0, xtc_2_1, xtc_3_0, xtc_4_0, xtc_4_1, xtc_4_2, xtc_4_3, xtc_4_4, xtc_4_5, xtc_4_6, xtc_4_7, xtc_4_8, xtc_4_9, xtc_4_10, xtc_4_11, xtc_4_12, xtc_5_0, xtc_5_1, xtc_5_2, xtc_5_3, xtc_5_4, xtc_5_5, xtc_5_6, xtc_6_0, xtc_6_1, xtc_6_2, xtc_7_0, xtc_7_1, xtc_8_0, xtc_8_1, xtc_8_2, xtc_8_3, xtc_9_0, xtc_9_1, xtc_9_2, xtc_9_3, xtc_9_4, xtc_9_5, xtc_9_6, xtc_9_7, xtc_9_8, xtc_9_9, xtc_10_0, xtc_10_1, xtc_10_2, xtc_10_3, xtc_10_4, xtc_10_5, xtc_10_6, xtc_10_7, xtc_10_8, xtc_10_9, xtc_10_10, xtc_10_11, xtc_10_12, xtc_10_13, xtc_10_14, xtc_10_15, xtc_10_16, xtc_10_17, xtc_10_18, xtc_10_19, xtc_10_20, xtc_10_21, xtc_10_22, xtc_10_23, xtc_10_24, xtc_10_25, eq_self, reduceIte, Nat.reduceEqDiff, Nat.reduceAdd, Nat.reduceSub, Nat.zero_ne_one, Nat.one_ne_zero, Nat.succ_ne_zero, Nat.reduceLeDiff, reduceCtorEq, and_true, true_and, and_false, false_and, true_implies, false_implies, implies_true, not_true_eq_false, not_false_eq_true, xN_0, xN_s, xlook_c, xlook_n, xb_nil, xb_cons, xlen, xl_cons, xst_def, xst2_def, xdl_nil, xdl_int, xdl_ref, xdl_long, xrv_some, xfit_int, xfit_long, xfit_ref, cat_int, cat_ref, cat_long, xret_int, xret_bool, or_true, true_or, Option.some.injEq, Value.int.injEq, Value.ref.injEq, Value.long.injEq, List.getElem?_cons_zero, List.getElem?_cons_succ, List.set_cons_zero, List.set_cons_succ, List.length_cons, List.length_nil, xup_xup, Classical.not_not, Nat.reduceLT, Nat.zero_lt_succ, n1, n2, n3, ra_len]
      simp (disch := omega) only [I_lt, I_le, I_eq, I_in, I_add, I_sub, I_mul, I_b0, I_b01, b_eq0, b_eq1, Classical.not_not, ra_get, ra_set, ra_len, Int.toNat_natCast, eq_self, true_and, and_true, ne_eq, not_false_eq_true, not_true_eq_false]
      have hc : (cutB S s = true) = (0 < demOut S s - sm (fun i => if outs s (S.2 0 i) (S.2 1 i) = true then S.2 2 i else 0) i) := by
        rw [e]; unfold cutB capOut; simp only [decide_eq_true_eq, eq_iff_iff]; omega
      refine ⟨fun _ => ⟨fun h => ?_, fun h => ?_⟩, fun h => absurd h (by omega)⟩
      · rw [← hQ, if_neg (by rw [hc]; omega)]; exact ⟨rfl, rfl, rfl⟩
      · rw [← hQ, if_pos (by rw [hc]; omega)]; exact ⟨rfl, rfl, rfl⟩
    | succ j ih =>
      intro i hi
      have hb2 := sm_bd i (fun k hk => hpos k (by omega))
      obtain ⟨p1, p2, p3, p4, p5, p6, p7, -, -⟩ := hw.2.2.2.1 i (by omega)
      have hn := hw.1
      refine xL_ok (t := tX4_isCut) rfl (ops := oX4_isCut_8) (by decide +kernel) (T := [(0, oX4_isCut_0), (5, oX4_isCut_5), (36, oX4_isCut_36), (48, oX4_isCut_48), (54, oX4_isCut_54), (62, oX4_isCut_62), (63, oX4_isCut_63)]) (by decide +kernel) 4 ?_
      simp only [oX4_isCut_0, oX4_isCut_5, oX4_isCut_36, oX4_isCut_48, oX4_isCut_54, oX4_isCut_62, oX4_isCut_63, oX4_isCut_8, rX4_isCut, x_iconst, x_bipush, x_sipush, x_lconst, x_iload, x_lload, x_aload, x_istore, x_lstore, x_astore, x_iinc, x_iadd, x_isub, x_imul, x_iand, x_ior, x_ixor, x_ishl, x_ishr, x_ineg, x_ladd, x_lsub, x_lmul, x_ldiv, x_lrem, x_lcmp, x_i2l, x_l2i, x_dup, x_dup_x1, x_dup2, x_if_eq, x_if_ne, x_if_lt, x_if_ge, x_if_gt, x_if_le, x_ic_eq, x_ic_ne, x_ic_lt, x_ic_ge, x_ic_gt, x_ic_le, x_goto, x_ireturn, x_lreturn, x_return, x_getfield, x_putfield, x_iaload, x_baload, x_laload, x_aaload, x_iastore, x_bastore, x_lastore, x_aastore, x_arraylength, x_newarray, x_anewarray, x_new, x_iload_0, x_iload_1, x_iload_2, x_iload_3, x_lload_0, x_lload_1, x_lload_2, x_lload_3, x_aload_0, x_aload_1, x_aload_2, x_aload_3, x_istore_0, x_istore_1, x_istore_2, x_istore_3, x_lstore_0, x_lstore_1, x_lstore_2, x_lstore_3, x_astore_0, x_astore_1, x_astore_2, x_astore_3, q_bipush_m3, q_bipush_m2, q_bipush_6, q_bipush_7, q_bipush_9, q_bipush_10, q_bipush_24, q_bipush_30, q_bipush_48, q_bipush_100, q_sipush_300, q_sipush_1000, q_sipush_24001, q_l0, q_l1, xtc_0_0, xtc_0_1, xtc_0_2, xtc_0_3, xtc_0_4, xtc_0_5, xtc_1_0, xtc_1_1, xtc_1_2, xtc_2_0, xtc_2_1, xtc_3_0, xtc_4_0, xtc_4_1, xtc_4_2, xtc_4_3, xtc_4_4, xtc_4_5, xtc_4_6, xtc_4_7, xtc_4_8, xtc_4_9, xtc_4_10, xtc_4_11, xtc_4_12, xtc_5_0, xtc_5_1, xtc_5_2, xtc_5_3, xtc_5_4, xtc_5_5, xtc_5_6, xtc_6_0, xtc_6_1, xtc_6_2, xtc_7_0, xtc_7_1, xtc_8_0, xtc_8_1, xtc_8_2, xtc_8_3, xtc_9_0, xtc_9_1, xtc_9_2, xtc_9_3, xtc_9_4, xtc_9_5, xtc_9_6, xtc_9_7, xtc_9_8, xtc_9_9, xtc_10_0, xtc_10_1, xtc_10_2, xtc_10_3, xtc_10_4, xtc_10_5, xtc_10_6, xtc_10_7, xtc_10_8, xtc_10_9, xtc_10_10, xtc_10_11, xtc_10_12, xtc_10_13, xtc_10_14, xtc_10_15, xtc_10_16, xtc_10_17, xtc_10_18, xtc_10_19, xtc_10_20, xtc_10_21, xtc_10_22, xtc_10_23, xtc_10_24, xtc_10_25, eq_self, reduceIte, Nat.reduceEqDiff, Nat.reduceAdd, Nat.reduceSub, Nat.zero_ne_one, Nat.one_ne_zero, Nat.succ_ne_zero, Nat.reduceLeDiff, reduceCtorEq, and_true, true_and, and_false, false_and, true_implies, false_implies, implies_true, not_true_eq_false, not_false_eq_true, xN_0, xN_s, xlook_c, xlook_n, xb_nil, xb_cons, xlen, xl_cons, xst_def, xst2_def, xdl_nil, xdl_int, xdl_ref, xdl_long, xrv_some, xfit_int, xfit_long, xfit_ref, cat_int, cat_ref, cat_long, xret_int, xret_bool, or_true, true_or, Option.some.injEq, Value.int.injEq, Value.ref.injEq, Value.long.injEq, List.getElem?_cons_zero, List.getElem?_cons_succ, List.set_cons_zero, List.set_cons_succ, List.length_cons, List.length_nil, xup_xup, Classical.not_not, Nat.reduceLT, Nat.zero_lt_succ, n1, n2, n3, ra_len]
      simp (disch := omega) only [I_lt, I_le, I_eq, I_in, I_add, I_sub, I_mul, I_b0, I_b01, b_eq0, b_eq1, Classical.not_not, ra_get, ra_set, ra_len, Int.toNat_natCast, eq_self, true_and, and_true, ne_eq, not_false_eq_true, not_true_eq_false]
      have hmono := sm_mono (f := fun i => if outs s (S.2 0 i) (S.2 1 i) = true then S.2 2 i else 0) (k := i) (m := S.na) (by omega) (fun k hk => (hpos k hk).1)
      have hc : (cutB S s = true) = (0 < demOut S s - sm (fun i => if outs s (S.2 0 i) (S.2 1 i) = true then S.2 2 i else 0) S.na) := by
        unfold cutB capOut; simp only [decide_eq_true_eq, eq_iff_iff]; omega
      refine ⟨fun h => absurd h (by omega), fun _ => ⟨fun h => ⟨fun _ => ?_, fun h2 => absurd h h2⟩, fun h => ⟨by omega, by omega, ?_⟩⟩⟩
      · rw [← hQ, if_neg (by rw [hc]; omega)]; exact ⟨rfl, rfl, rfl⟩
      · refine cX4_isCut_33 (dc := 0) (cc := 0) (cs := 0) (by omega) (by omega) (by omega) (Nat.le_of_ble_eq_true rfl) (w_leadsOut hs p1 (by omega) p3 (by omega)) (pureQ ?_)
        simp only [Option.toList_some, Option.toList_none, List.cons_append, List.nil_append, Nat.sub_zero, Nat.reduceSub, Nat.sub_self]
        refine xN_ok (t := tX4_isCut) rfl (T := [(0, oX4_isCut_0), (5, oX4_isCut_5), (36, oX4_isCut_36), (48, oX4_isCut_48), (54, oX4_isCut_54), (62, oX4_isCut_62), (63, oX4_isCut_63)]) (by decide +kernel) 3 _ _ _ _ _ _ _ ?_
        simp only [oX4_isCut_0, oX4_isCut_5, oX4_isCut_36, oX4_isCut_48, oX4_isCut_54, oX4_isCut_62, oX4_isCut_63, rX4_isCut, x_iconst, x_bipush, x_sipush, x_lconst, x_iload, x_lload, x_aload, x_istore, x_lstore, x_astore, x_iinc, x_iadd, x_isub, x_imul, x_iand, x_ior, x_ixor, x_ishl, x_ishr, x_ineg, x_ladd, x_lsub, x_lmul, x_ldiv, x_lrem, x_lcmp, x_i2l, x_l2i, x_dup, x_dup_x1, x_dup2, x_if_eq, x_if_ne, x_if_lt, x_if_ge, x_if_gt, x_if_le, x_ic_eq, x_ic_ne, x_ic_lt, x_ic_ge, x_ic_gt, x_ic_le, x_goto, x_ireturn, x_lreturn, x_return, x_getfield, x_putfield, x_iaload, x_baload, x_laload, x_aaload, x_iastore, x_bastore, x_lastore, x_aastore, x_arraylength, x_newarray, x_anewarray, x_new, x_iload_0, x_iload_1, x_iload_2, x_iload_3, x_lload_0, x_lload_1, x_lload_2, x_lload_3, x_aload_0, x_aload_1, x_aload_2, x_aload_3, x_istore_0, x_istore_1, x_istore_2, x_istore_3, x_lstore_0, x_lstore_1, x_lstore_2, x_lstore_3, x_astore_0, x_astore_1, x_astore_2, x_astore_3, q_bipush_m3, q_bipush_m2, q_bipush_6, q_bipush_7, q_bipush_9, q_bipush_10, q_bipush_24, q_bipush_30, q_bipush_48, q_bipush_100, q_sipush_300, q_sipush_1000, q_sipush_24001, q_l0, q_l1, xtc_0_0, xtc_0_1, xtc_0_2, xtc_0_3, xtc_0_4, xtc_0_5, xtc_1_0, xtc_1_1, xtc_1_2, xtc_2_0, xtc_2_1, xtc_3_0, xtc_4_0, xtc_4_1, xtc_4_2, xtc_4_3, xtc_4_4, xtc_4_5, xtc_4_6, xtc_4_7, xtc_4_8, xtc_4_9, xtc_4_10, xtc_4_11, xtc_4_12, xtc_5_0, xtc_5_1, xtc_5_2, xtc_5_3, xtc_5_4, xtc_5_5, xtc_5_6, xtc_6_0, xtc_6_1, xtc_6_2, xtc_7_0, xtc_7_1, xtc_8_0, xtc_8_1, xtc_8_2, xtc_8_3, xtc_9_0, xtc_9_1, xtc_9_2, xtc_9_3, xtc_9_4, xtc_9_5, xtc_9_6, xtc_9_7, xtc_9_8, xtc_9_9, xtc_10_0, xtc_10_1, xtc_10_2, xtc_10_3, xtc_10_4, xtc_10_5, xtc_10_6, xtc_10_7, xtc_10_8, xtc_10_9, xtc_10_10, xtc_10_11, xtc_10_12, xtc_10_13, xtc_10_14, xtc_10_15, xtc_10_16, xtc_10_17, xtc_10_18, xtc_10_19, xtc_10_20, xtc_10_21, xtc_10_22, xtc_10_23, xtc_10_24, xtc_10_25, eq_self, reduceIte, Nat.reduceEqDiff, Nat.reduceAdd, Nat.reduceSub, Nat.zero_ne_one, Nat.one_ne_zero, Nat.succ_ne_zero, Nat.reduceLeDiff, reduceCtorEq, and_true, true_and, and_false, false_and, true_implies, false_implies, implies_true, not_true_eq_false, not_false_eq_true, xN_0, xN_s, xlook_c, xlook_n, xb_nil, xb_cons, xlen, xl_cons, xst_def, xst2_def, xdl_nil, xdl_int, xdl_ref, xdl_long, xrv_some, xfit_int, xfit_long, xfit_ref, cat_int, cat_ref, cat_long, xret_int, xret_bool, or_true, true_or, Option.some.injEq, Value.int.injEq, Value.ref.injEq, Value.long.injEq, List.getElem?_cons_zero, List.getElem?_cons_succ, List.set_cons_zero, List.set_cons_succ, List.length_cons, List.length_nil, xup_xup, Classical.not_not, Nat.reduceLT, Nat.zero_lt_succ, n1, n4, ra_len]
        simp (disch := omega) only [I_lt, I_le, I_eq, I_in, I_add, I_sub, I_mul, I_b0, I_b01, b_eq0, b_eq1, Classical.not_not, ra_get, ra_set, ra_len, Int.toNat_natCast, eq_self, true_and, and_true, ne_eq, not_false_eq_true, not_true_eq_false]
        refine ⟨fun h => ?_, fun h => ⟨by omega, ?_⟩⟩
        · exact xX.loc _ (by simp [sm, h]) (ih (i + 1) (by omega))
        · exact xX.loc _ (by simp [sm, h]; congr 1; omega) (ih (i + 1) (by omega))
  refine xN_ok (t := tX4_isCut) rfl (T := AX4_isCut) aX4_isCut 1 _ _ _ _ _ _ _ ?_
  simp only [AX4_isCut, oX4_isCut_0, oX4_isCut_5, oX4_isCut_8, oX4_isCut_36, oX4_isCut_48, oX4_isCut_54, oX4_isCut_62, oX4_isCut_63, rX4_isCut, x_iconst, x_bipush, x_sipush, x_lconst, x_iload, x_lload, x_aload, x_istore, x_lstore, x_astore, x_iinc, x_iadd, x_isub, x_imul, x_iand, x_ior, x_ixor, x_ishl, x_ishr, x_ineg, x_ladd, x_lsub, x_lmul, x_ldiv, x_lrem, x_lcmp, x_i2l, x_l2i, x_dup, x_dup_x1, x_dup2, x_if_eq, x_if_ne, x_if_lt, x_if_ge, x_if_gt, x_if_le, x_ic_eq, x_ic_ne, x_ic_lt, x_ic_ge, x_ic_gt, x_ic_le, x_goto, x_ireturn, x_lreturn, x_return, x_getfield, x_putfield, x_iaload, x_baload, x_laload, x_aaload, x_iastore, x_bastore, x_lastore, x_aastore, x_arraylength, x_newarray, x_anewarray, x_new, x_iload_0, x_iload_1, x_iload_2, x_iload_3, x_lload_0, x_lload_1, x_lload_2, x_lload_3, x_aload_0, x_aload_1, x_aload_2, x_aload_3, x_istore_0, x_istore_1, x_istore_2, x_istore_3, x_lstore_0, x_lstore_1, x_lstore_2, x_lstore_3, x_astore_0, x_astore_1, x_astore_2, x_astore_3, q_bipush_m3, q_bipush_m2, q_bipush_6, q_bipush_7, q_bipush_9, q_bipush_10, q_bipush_24, q_bipush_30, q_bipush_48, q_bipush_100, q_sipush_300, q_sipush_1000, q_sipush_24001, q_l0, q_l1, xtc_0_0, xtc_0_1, xtc_0_2, xtc_0_3, xtc_0_4, xtc_0_5, xtc_1_0, xtc_1_1, xtc_1_2, xtc_2_0, xtc_2_1, xtc_3_0, xtc_4_0, xtc_4_1, xtc_4_2, xtc_4_3, xtc_4_4, xtc_4_5, xtc_4_6, xtc_4_7, xtc_4_8, xtc_4_9, xtc_4_10, xtc_4_11, xtc_4_12, xtc_5_0, xtc_5_1, xtc_5_2, xtc_5_3, xtc_5_4, xtc_5_5, xtc_5_6, xtc_6_0, xtc_6_1, xtc_6_2, xtc_7_0, xtc_7_1, xtc_8_0, xtc_8_1, xtc_8_2, xtc_8_3, xtc_9_0, xtc_9_1, xtc_9_2, xtc_9_3, xtc_9_4, xtc_9_5, xtc_9_6, xtc_9_7, xtc_9_8, xtc_9_9, xtc_10_0, xtc_10_1, xtc_10_2, xtc_10_3, xtc_10_4, xtc_10_5, xtc_10_6, xtc_10_7, xtc_10_8, xtc_10_9, xtc_10_10, xtc_10_11, xtc_10_12, xtc_10_13, xtc_10_14, xtc_10_15, xtc_10_16, xtc_10_17, xtc_10_18, xtc_10_19, xtc_10_20, xtc_10_21, xtc_10_22, xtc_10_23, xtc_10_24, xtc_10_25, eq_self, reduceIte, Nat.reduceEqDiff, Nat.reduceAdd, Nat.reduceSub, Nat.zero_ne_one, Nat.one_ne_zero, Nat.succ_ne_zero, Nat.reduceLeDiff, reduceCtorEq, and_true, true_and, and_false, false_and, true_implies, false_implies, implies_true, not_true_eq_false, not_false_eq_true, xN_0, xN_s, xlook_c, xlook_n, xb_nil, xb_cons, xlen, xl_cons, xst_def, xst2_def, xdl_nil, xdl_int, xdl_ref, xdl_long, xrv_some, xfit_int, xfit_long, xfit_ref, cat_int, cat_ref, cat_long, xret_int, xret_bool, or_true, true_or, Option.some.injEq, Value.int.injEq, Value.ref.injEq, Value.long.injEq, List.getElem?_cons_zero, List.getElem?_cons_succ, List.set_cons_zero, List.set_cons_succ, List.length_cons, List.length_nil, xup_xup, Classical.not_not, Nat.reduceLT, Nat.zero_lt_succ]
  exact xX.loc _ (by simp [sm, demOut]) (loop S.na 0 (by omega))
/-- the first of j numbers from i on with the property, or -1 -/
def fS (P : Nat → Bool) : Nat → Nat → Int
  | 0, _ => -1
  | j + 1, i => if P i = true then (i : Int) else fS P j (i + 1)
theorem I_pow : ∀ v : Nat, v ≤ 10 → I 1 <<< (I v &&& 31) = I (2 ^ v : Nat) := by decide +kernel
theorem pow_le10 {v : Nat} (h : v ≤ 10) : 2 ^ v ≤ 1024 := Nat.pow_le_pow_right (by decide) h
theorem w_cut (hO : ObjAt ws pv) (hN : NetAt ws S ver wv) (hw : WF S) (hd : 3 ≤ d) : xM l tX9_cut d 0 0 [.ref 0] n ws (fun r n' ws' => r = some (.int (I (fS (cutB S) (2 ^ S.nn) 0))) ∧ n' = n ∧ ws' = ws) := by
  have hN0 := hN
  obtain ⟨n1, n2, n3, n4, n5, n6, n7, n8, n9⟩ := hN
  have hb : S.nn ≤ 10 := hw.1
  have hp := pow_le10 hb
  unfold ObjAt at hO
  generalize hQ : (fun (r : Option Value) (n' : Nat) (ws' : xW) => r = some (.int (I (fS (cutB S) (2 ^ S.nn) 0))) ∧ n' = n ∧ ws' = ws) = Q
  refine xM.of (by decide) (Nat.le_of_ble_eq_true rfl) ?_
  simp only [lv_args, cat_int, cat_ref, cat_long, reduceIte, Nat.reduceEqDiff, Nat.reduceAdd, Nat.one_ne_zero, Nat.reduceLeDiff]
  refine xN_ok (t := tX9_cut) rfl (T := AX9_cut) aX9_cut 1 _ _ _ _ _ _ _ ?_
  simp only [AX9_cut, oX9_cut_0, oX9_cut_12, oX9_cut_25, oX9_cut_30, oX9_cut_36, rX9_cut, x_iconst, x_bipush, x_sipush, x_lconst, x_iload, x_lload, x_aload, x_istore, x_lstore, x_astore, x_iinc, x_iadd, x_isub, x_imul, x_iand, x_ior, x_ixor, x_ishl, x_ishr, x_ineg, x_ladd, x_lsub, x_lmul, x_ldiv, x_lrem, x_lcmp, x_i2l, x_l2i, x_dup, x_dup_x1, x_dup2, x_if_eq, x_if_ne, x_if_lt, x_if_ge, x_if_gt, x_if_le, x_ic_eq, x_ic_ne, x_ic_lt, x_ic_ge, x_ic_gt, x_ic_le, x_goto, x_ireturn, x_lreturn, x_return, x_getfield, x_putfield, x_iaload, x_baload, x_laload, x_aaload, x_iastore, x_bastore, x_lastore, x_aastore, x_arraylength, x_newarray, x_anewarray, x_new, x_iload_0, x_iload_1, x_iload_2, x_iload_3, x_lload_0, x_lload_1, x_lload_2, x_lload_3, x_aload_0, x_aload_1, x_aload_2, x_aload_3, x_istore_0, x_istore_1, x_istore_2, x_istore_3, x_lstore_0, x_lstore_1, x_lstore_2, x_lstore_3, x_astore_0, x_astore_1, x_astore_2, x_astore_3, q_bipush_m3, q_bipush_m2, q_bipush_6, q_bipush_7, q_bipush_9, q_bipush_10, q_bipush_24, q_bipush_30, q_bipush_48, q_bipush_100, q_sipush_300, q_sipush_1000, q_sipush_24001, q_l0, q_l1, xtc_0_0, xtc_0_1, xtc_0_2, xtc_0_3, xtc_0_4, xtc_0_5, xtc_1_0, xtc_1_1, xtc_1_2, xtc_2_0, xtc_2_1, xtc_3_0, xtc_4_0, xtc_4_1, xtc_4_2, xtc_4_3, xtc_4_4, xtc_4_5, xtc_4_6, xtc_4_7, xtc_4_8, xtc_4_9, xtc_4_10, xtc_4_11, xtc_4_12, xtc_5_0, xtc_5_1, xtc_5_2, xtc_5_3, xtc_5_4, xtc_5_5, xtc_5_6, xtc_6_0, xtc_6_1, xtc_6_2, xtc_7_0, xtc_7_1, xtc_8_0, xtc_8_1, xtc_8_2, xtc_8_3, xtc_9_0, xtc_9_1, xtc_9_2, xtc_9_3, xtc_9_4, xtc_9_5, xtc_9_6, xtc_9_7, xtc_9_8, xtc_9_9, xtc_10_0, xtc_10_1, xtc_10_2, xtc_10_3, xtc_10_4, xtc_10_5, xtc_10_6, xtc_10_7, xtc_10_8, xtc_10_9, xtc_10_10, xtc_10_11, xtc_10_12, xtc_10_13, xtc_10_14, xtc_10_15, xtc_10_16, xtc_10_17, xtc_10_18, xtc_10_19, xtc_10_20, xtc_10_21, xtc_10_22, xtc_10_23, xtc_10_24, xtc_10_25, eq_self, reduceIte, Nat.reduceEqDiff, Nat.reduceAdd, Nat.reduceSub, Nat.zero_ne_one, Nat.one_ne_zero, Nat.succ_ne_zero, Nat.reduceLeDiff, reduceCtorEq, and_true, true_and, and_false, false_and, true_implies, false_implies, implies_true, not_true_eq_false, not_false_eq_true, xN_0, xN_s, xlook_c, xlook_n, xb_nil, xb_cons, xlen, xl_cons, xst_def, xst2_def, xdl_nil, xdl_int, xdl_ref, xdl_long, xrv_some, xfit_int, xfit_long, xfit_ref, cat_int, cat_ref, cat_long, xret_int, xret_bool, or_true, true_or, Option.some.injEq, Value.int.injEq, Value.ref.injEq, Value.long.injEq, List.getElem?_cons_zero, List.getElem?_cons_succ, List.set_cons_zero, List.set_cons_succ, List.length_cons, List.length_nil, xup_xup, Classical.not_not, Nat.reduceLT, Nat.zero_lt_succ, hO, n1, I_pow _ hb]
  have loop : ∀ j i : Nat, i + j = 2 ^ S.nn → fS (cutB S) j i = fS (cutB S) (2 ^ S.nn) 0 → xX l tX9_cut d 0 0 Q 0 0 12 [(0, .ref 0), (1, .int (I (2 ^ S.nn : Nat))), (2, .int (I i))] [] n ws := by
    intro j
    induction j with
    | zero =>
      intro i hi hf
      refine xL_ok (t := tX9_cut) rfl (ops := oX9_cut_12) (by decide +kernel) (T := [(0, oX9_cut_0), (25, oX9_cut_25), (30, oX9_cut_30), (36, oX9_cut_36)]) (by decide +kernel) 2 ?_
      simp only [oX9_cut_0, oX9_cut_25, oX9_cut_30, oX9_cut_36, oX9_cut_12, rX9_cut, x_iconst, x_bipush, x_sipush, x_lconst, x_iload, x_lload, x_aload, x_istore, x_lstore, x_astore, x_iinc, x_iadd, x_isub, x_imul, x_iand, x_ior, x_ixor, x_ishl, x_ishr, x_ineg, x_ladd, x_lsub, x_lmul, x_ldiv, x_lrem, x_lcmp, x_i2l, x_l2i, x_dup, x_dup_x1, x_dup2, x_if_eq, x_if_ne, x_if_lt, x_if_ge, x_if_gt, x_if_le, x_ic_eq, x_ic_ne, x_ic_lt, x_ic_ge, x_ic_gt, x_ic_le, x_goto, x_ireturn, x_lreturn, x_return, x_getfield, x_putfield, x_iaload, x_baload, x_laload, x_aaload, x_iastore, x_bastore, x_lastore, x_aastore, x_arraylength, x_newarray, x_anewarray, x_new, x_iload_0, x_iload_1, x_iload_2, x_iload_3, x_lload_0, x_lload_1, x_lload_2, x_lload_3, x_aload_0, x_aload_1, x_aload_2, x_aload_3, x_istore_0, x_istore_1, x_istore_2, x_istore_3, x_lstore_0, x_lstore_1, x_lstore_2, x_lstore_3, x_astore_0, x_astore_1, x_astore_2, x_astore_3, q_bipush_m3, q_bipush_m2, q_bipush_6, q_bipush_7, q_bipush_9, q_bipush_10, q_bipush_24, q_bipush_30, q_bipush_48, q_bipush_100, q_sipush_300, q_sipush_1000, q_sipush_24001, q_l0, q_l1, xtc_0_0, xtc_0_1, xtc_0_2, xtc_0_3, xtc_0_4, xtc_0_5, xtc_1_0, xtc_1_1, xtc_1_2, xtc_2_0, xtc_2_1, xtc_3_0, xtc_4_0, xtc_4_1, xtc_4_2, xtc_4_3, xtc_4_4, xtc_4_5, xtc_4_6, xtc_4_7, xtc_4_8, xtc_4_9, xtc_4_10, xtc_4_11, xtc_4_12, xtc_5_0, xtc_5_1, xtc_5_2, xtc_5_3, xtc_5_4, xtc_5_5, xtc_5_6, xtc_6_0, xtc_6_1, xtc_6_2, xtc_7_0, xtc_7_1, xtc_8_0, xtc_8_1, xtc_8_2, xtc_8_3, xtc_9_0, xtc_9_1, xtc_9_2, xtc_9_3, xtc_9_4, xtc_9_5, xtc_9_6, xtc_9_7, xtc_9_8, xtc_9_9, xtc_10_0, xtc_10_1, xtc_10_2, xtc_10_3, xtc_10_4, xtc_10_5, xtc_10_6, xtc_10_7, xtc_10_8, xtc_10_9, xtc_10_10, xtc_10_11, xtc_10_12, xtc_10_13, xtc_10_14, xtc_10_15, xtc_10_16, xtc_10_17, xtc_10_18, xtc_10_19, xtc_10_20, xtc_10_21, xtc_10_22, xtc_10_23, xtc_10_24, xtc_10_25, eq_self, reduceIte, Nat.reduceEqDiff, Nat.reduceAdd, Nat.reduceSub, Nat.zero_ne_one, Nat.one_ne_zero, Nat.succ_ne_zero, Nat.reduceLeDiff, reduceCtorEq, and_true, true_and, and_false, false_and, true_implies, false_implies, implies_true, not_true_eq_false, not_false_eq_true, xN_0, xN_s, xlook_c, xlook_n, xb_nil, xb_cons, xlen, xl_cons, xst_def, xst2_def, xdl_nil, xdl_int, xdl_ref, xdl_long, xrv_some, xfit_int, xfit_long, xfit_ref, cat_int, cat_ref, cat_long, xret_int, xret_bool, or_true, true_or, Option.some.injEq, Value.int.injEq, Value.ref.injEq, Value.long.injEq, List.getElem?_cons_zero, List.getElem?_cons_succ, List.set_cons_zero, List.set_cons_succ, List.length_cons, List.length_nil, xup_xup, Classical.not_not, Nat.reduceLT, Nat.zero_lt_succ, hO, n1]
      simp (disch := omega) only [I_lt, I_le, I_eq, I_in, I_add, I_sub, I_mul, I_b0, I_b01, b_eq0, b_eq1, Classical.not_not, ra_get, ra_set, ra_len, Int.toNat_natCast, eq_self, true_and, and_true, ne_eq, not_false_eq_true, not_true_eq_false]
      refine ⟨fun _ => ?_, fun h => absurd h (by omega)⟩
      rw [← hQ, ← hf]
      exact ⟨rfl, rfl, rfl⟩
    | succ j ih =>
      intro i hi hf
      refine xL_ok (t := tX9_cut) rfl (ops := oX9_cut_12) (by decide +kernel) (T := [(0, oX9_cut_0), (25, oX9_cut_25), (30, oX9_cut_30), (36, oX9_cut_36)]) (by decide +kernel) 2 ?_
      simp only [oX9_cut_0, oX9_cut_25, oX9_cut_30, oX9_cut_36, oX9_cut_12, rX9_cut, x_iconst, x_bipush, x_sipush, x_lconst, x_iload, x_lload, x_aload, x_istore, x_lstore, x_astore, x_iinc, x_iadd, x_isub, x_imul, x_iand, x_ior, x_ixor, x_ishl, x_ishr, x_ineg, x_ladd, x_lsub, x_lmul, x_ldiv, x_lrem, x_lcmp, x_i2l, x_l2i, x_dup, x_dup_x1, x_dup2, x_if_eq, x_if_ne, x_if_lt, x_if_ge, x_if_gt, x_if_le, x_ic_eq, x_ic_ne, x_ic_lt, x_ic_ge, x_ic_gt, x_ic_le, x_goto, x_ireturn, x_lreturn, x_return, x_getfield, x_putfield, x_iaload, x_baload, x_laload, x_aaload, x_iastore, x_bastore, x_lastore, x_aastore, x_arraylength, x_newarray, x_anewarray, x_new, x_iload_0, x_iload_1, x_iload_2, x_iload_3, x_lload_0, x_lload_1, x_lload_2, x_lload_3, x_aload_0, x_aload_1, x_aload_2, x_aload_3, x_istore_0, x_istore_1, x_istore_2, x_istore_3, x_lstore_0, x_lstore_1, x_lstore_2, x_lstore_3, x_astore_0, x_astore_1, x_astore_2, x_astore_3, q_bipush_m3, q_bipush_m2, q_bipush_6, q_bipush_7, q_bipush_9, q_bipush_10, q_bipush_24, q_bipush_30, q_bipush_48, q_bipush_100, q_sipush_300, q_sipush_1000, q_sipush_24001, q_l0, q_l1, xtc_0_0, xtc_0_1, xtc_0_2, xtc_0_3, xtc_0_4, xtc_0_5, xtc_1_0, xtc_1_1, xtc_1_2, xtc_2_0, xtc_2_1, xtc_3_0, xtc_4_0, xtc_4_1, xtc_4_2, xtc_4_3, xtc_4_4, xtc_4_5, xtc_4_6, xtc_4_7, xtc_4_8, xtc_4_9, xtc_4_10, xtc_4_11, xtc_4_12, xtc_5_0, xtc_5_1, xtc_5_2, xtc_5_3, xtc_5_4, xtc_5_5, xtc_5_6, xtc_6_0, xtc_6_1, xtc_6_2, xtc_7_0, xtc_7_1, xtc_8_0, xtc_8_1, xtc_8_2, xtc_8_3, xtc_9_0, xtc_9_1, xtc_9_2, xtc_9_3, xtc_9_4, xtc_9_5, xtc_9_6, xtc_9_7, xtc_9_8, xtc_9_9, xtc_10_0, xtc_10_1, xtc_10_2, xtc_10_3, xtc_10_4, xtc_10_5, xtc_10_6, xtc_10_7, xtc_10_8, xtc_10_9, xtc_10_10, xtc_10_11, xtc_10_12, xtc_10_13, xtc_10_14, xtc_10_15, xtc_10_16, xtc_10_17, xtc_10_18, xtc_10_19, xtc_10_20, xtc_10_21, xtc_10_22, xtc_10_23, xtc_10_24, xtc_10_25, eq_self, reduceIte, Nat.reduceEqDiff, Nat.reduceAdd, Nat.reduceSub, Nat.zero_ne_one, Nat.one_ne_zero, Nat.succ_ne_zero, Nat.reduceLeDiff, reduceCtorEq, and_true, true_and, and_false, false_and, true_implies, false_implies, implies_true, not_true_eq_false, not_false_eq_true, xN_0, xN_s, xlook_c, xlook_n, xb_nil, xb_cons, xlen, xl_cons, xst_def, xst2_def, xdl_nil, xdl_int, xdl_ref, xdl_long, xrv_some, xfit_int, xfit_long, xfit_ref, cat_int, cat_ref, cat_long, xret_int, xret_bool, or_true, true_or, Option.some.injEq, Value.int.injEq, Value.ref.injEq, Value.long.injEq, List.getElem?_cons_zero, List.getElem?_cons_succ, List.set_cons_zero, List.set_cons_succ, List.length_cons, List.length_nil, xup_xup, Classical.not_not, Nat.reduceLT, Nat.zero_lt_succ, hO, n1]
      simp (disch := omega) only [I_lt, I_le, I_eq, I_in, I_add, I_sub, I_mul, I_b0, I_b01, b_eq0, b_eq1, Classical.not_not, ra_get, ra_set, ra_len, Int.toNat_natCast, eq_self, true_and, and_true, ne_eq, not_false_eq_true, not_true_eq_false]
      refine ⟨fun h => absurd h (by omega), fun _ => ?_⟩
      refine cX9_cut_22 n1 (dc := 2) (cc := 0) (cs := 0) (by omega) (by omega) (by omega) (Nat.le_of_ble_eq_true rfl) (w_isCut hN0 hw (by omega) (by omega)) (pureQ ?_)
      simp only [Option.toList_some, Option.toList_none, List.cons_append, List.nil_append, Nat.sub_zero, Nat.reduceSub, Nat.sub_self]
      refine xN_ok (t := tX9_cut) rfl (T := [(0, oX9_cut_0), (25, oX9_cut_25), (30, oX9_cut_30), (36, oX9_cut_36)]) (by decide +kernel) 3 _ _ _ _ _ _ _ ?_
      simp only [oX9_cut_0, oX9_cut_25, oX9_cut_30, oX9_cut_36, rX9_cut, x_iconst, x_bipush, x_sipush, x_lconst, x_iload, x_lload, x_aload, x_istore, x_lstore, x_astore, x_iinc, x_iadd, x_isub, x_imul, x_iand, x_ior, x_ixor, x_ishl, x_ishr, x_ineg, x_ladd, x_lsub, x_lmul, x_ldiv, x_lrem, x_lcmp, x_i2l, x_l2i, x_dup, x_dup_x1, x_dup2, x_if_eq, x_if_ne, x_if_lt, x_if_ge, x_if_gt, x_if_le, x_ic_eq, x_ic_ne, x_ic_lt, x_ic_ge, x_ic_gt, x_ic_le, x_goto, x_ireturn, x_lreturn, x_return, x_getfield, x_putfield, x_iaload, x_baload, x_laload, x_aaload, x_iastore, x_bastore, x_lastore, x_aastore, x_arraylength, x_newarray, x_anewarray, x_new, x_iload_0, x_iload_1, x_iload_2, x_iload_3, x_lload_0, x_lload_1, x_lload_2, x_lload_3, x_aload_0, x_aload_1, x_aload_2, x_aload_3, x_istore_0, x_istore_1, x_istore_2, x_istore_3, x_lstore_0, x_lstore_1, x_lstore_2, x_lstore_3, x_astore_0, x_astore_1, x_astore_2, x_astore_3, q_bipush_m3, q_bipush_m2, q_bipush_6, q_bipush_7, q_bipush_9, q_bipush_10, q_bipush_24, q_bipush_30, q_bipush_48, q_bipush_100, q_sipush_300, q_sipush_1000, q_sipush_24001, q_l0, q_l1, xtc_0_0, xtc_0_1, xtc_0_2, xtc_0_3, xtc_0_4, xtc_0_5, xtc_1_0, xtc_1_1, xtc_1_2, xtc_2_0, xtc_2_1, xtc_3_0, xtc_4_0, xtc_4_1, xtc_4_2, xtc_4_3, xtc_4_4, xtc_4_5, xtc_4_6, xtc_4_7, xtc_4_8, xtc_4_9, xtc_4_10, xtc_4_11, xtc_4_12, xtc_5_0, xtc_5_1, xtc_5_2, xtc_5_3, xtc_5_4, xtc_5_5, xtc_5_6, xtc_6_0, xtc_6_1, xtc_6_2, xtc_7_0, xtc_7_1, xtc_8_0, xtc_8_1, xtc_8_2, xtc_8_3, xtc_9_0, xtc_9_1, xtc_9_2, xtc_9_3, xtc_9_4, xtc_9_5, xtc_9_6, xtc_9_7, xtc_9_8, xtc_9_9, xtc_10_0, xtc_10_1, xtc_10_2, xtc_10_3, xtc_10_4, xtc_10_5, xtc_10_6, xtc_10_7, xtc_10_8, xtc_10_9, xtc_10_10, xtc_10_11, xtc_10_12, xtc_10_13, xtc_10_14, xtc_10_15, xtc_10_16, xtc_10_17, xtc_10_18, xtc_10_19, xtc_10_20, xtc_10_21, xtc_10_22, xtc_10_23, xtc_10_24, xtc_10_25, eq_self, reduceIte, Nat.reduceEqDiff, Nat.reduceAdd, Nat.reduceSub, Nat.zero_ne_one, Nat.one_ne_zero, Nat.succ_ne_zero, Nat.reduceLeDiff, reduceCtorEq, and_true, true_and, and_false, false_and, true_implies, false_implies, implies_true, not_true_eq_false, not_false_eq_true, xN_0, xN_s, xlook_c, xlook_n, xb_nil, xb_cons, xlen, xl_cons, xst_def, xst2_def, xdl_nil, xdl_int, xdl_ref, xdl_long, xrv_some, xfit_int, xfit_long, xfit_ref, cat_int, cat_ref, cat_long, xret_int, xret_bool, or_true, true_or, Option.some.injEq, Value.int.injEq, Value.ref.injEq, Value.long.injEq, List.getElem?_cons_zero, List.getElem?_cons_succ, List.set_cons_zero, List.set_cons_succ, List.length_cons, List.length_nil, xup_xup, Classical.not_not, Nat.reduceLT, Nat.zero_lt_succ]
      simp (disch := omega) only [I_lt, I_le, I_eq, I_in, I_add, I_sub, I_mul, I_b0, I_b01, b_eq0, b_eq1, Classical.not_not, ra_get, ra_set, ra_len, Int.toNat_natCast, eq_self, true_and, and_true, ne_eq, not_false_eq_true, not_true_eq_false]
      rw [show fS (cutB S) (j + 1) i = if cutB S i = true then (i : Int) else fS (cutB S) j (i + 1) from rfl] at hf
      refine ⟨fun h => ?_, fun h => ?_⟩
      · rw [if_neg h] at hf
        exact xX.loc _ (by simp) (ih (i + 1) (by omega) hf)
      · rw [if_pos h] at hf
        rw [← hQ, ← hf]
        exact ⟨rfl, rfl, rfl⟩
  exact xX.loc _ (by simp) (loop (2 ^ S.nn) 0 (by omega) rfl)
end CUT
end
section
section CNT
variable {l : Launch} {d n : Nat} {ws : xW} {S : St} {ver wv pv : Int}
def spCount (S : St) (v : Int) : Int := if v = 0 then S.nn else if v = 1 then S.na else if v = 2 then S.ng else if v = 3 then sm (S.2 2) S.na else if v = 4 then sm (S.2 6) S.ng else if v = 5 then sm (S.2 7) S.ng else -2
theorem w_count (hO : ObjAt ws pv) (hN : NetAt ws S ver wv) (hw : WF S) (hd : 1 ≤ d) {v : Int} (h1 : -2147483648 ≤ v) (h2 : v < 2147483648) : xM l tX9_count d 0 0 [.ref 0, .int (I v)] n ws (fun r n' ws' => r = some (.int (I (spCount S v))) ∧ n' = n ∧ ws' = ws) := by
  obtain ⟨n1, n2, n3, n4, n5, n6, n7, n8, n9⟩ := hN
  have hb1 : S.na ≤ 24 := hw.2.1
  have hb2 : S.ng ≤ 6 := hw.2.2.1
  unfold ObjAt at hO
  refine xM.of (by decide) (Nat.le_of_ble_eq_true rfl) ?_
  simp only [lv_args, cat_int, cat_ref, cat_long, reduceIte, Nat.reduceEqDiff, Nat.reduceAdd, Nat.one_ne_zero, Nat.reduceLeDiff]
  refine xN_ok (t := tX9_count) rfl (T := AX9_count) aX9_count 1 _ _ _ _ _ _ _ ?_
  simp only [AX9_count, oX9_count_0, oX9_count_40, oX9_count_48, oX9_count_56, oX9_count_64, oX9_count_81, oX9_count_82, oX9_count_99, oX9_count_100, oX9_count_117, oX9_count_118, rX9_count, x_iconst, x_bipush, x_sipush, x_lconst, x_iload, x_lload, x_aload, x_istore, x_lstore, x_astore, x_iinc, x_iadd, x_isub, x_imul, x_iand, x_ior, x_ixor, x_ishl, x_ishr, x_ineg, x_ladd, x_lsub, x_lmul, x_ldiv, x_lrem, x_lcmp, x_i2l, x_l2i, x_dup, x_dup_x1, x_dup2, x_if_eq, x_if_ne, x_if_lt, x_if_ge, x_if_gt, x_if_le, x_ic_eq, x_ic_ne, x_ic_lt, x_ic_ge, x_ic_gt, x_ic_le, x_goto, x_ireturn, x_lreturn, x_return, x_getfield, x_putfield, x_iaload, x_baload, x_laload, x_aaload, x_iastore, x_bastore, x_lastore, x_aastore, x_arraylength, x_newarray, x_anewarray, x_new, x_iload_0, x_iload_1, x_iload_2, x_iload_3, x_lload_0, x_lload_1, x_lload_2, x_lload_3, x_aload_0, x_aload_1, x_aload_2, x_aload_3, x_istore_0, x_istore_1, x_istore_2, x_istore_3, x_lstore_0, x_lstore_1, x_lstore_2, x_lstore_3, x_astore_0, x_astore_1, x_astore_2, x_astore_3, q_bipush_m3, q_bipush_m2, q_bipush_6, q_bipush_7, q_bipush_9, q_bipush_10, q_bipush_24, q_bipush_30, q_bipush_48, q_bipush_100, q_sipush_300, q_sipush_1000, q_sipush_24001, q_l0, q_l1, xtc_0_0, xtc_0_1, xtc_0_2, xtc_0_3, xtc_0_4, xtc_0_5, xtc_1_0, xtc_1_1, xtc_1_2, xtc_2_0, xtc_2_1, xtc_3_0, xtc_4_0, xtc_4_1, xtc_4_2, xtc_4_3, xtc_4_4, xtc_4_5, xtc_4_6, xtc_4_7, xtc_4_8, xtc_4_9, xtc_4_10, xtc_4_11, xtc_4_12, xtc_5_0, xtc_5_1, xtc_5_2, xtc_5_3, xtc_5_4, xtc_5_5, xtc_5_6, xtc_6_0, xtc_6_1, xtc_6_2, xtc_7_0, xtc_7_1, xtc_8_0, xtc_8_1, xtc_8_2, xtc_8_3, xtc_9_0, xtc_9_1, xtc_9_2, xtc_9_3, xtc_9_4, xtc_9_5, xtc_9_6, xtc_9_7, xtc_9_8, xtc_9_9, xtc_10_0, xtc_10_1, xtc_10_2, xtc_10_3, xtc_10_4, xtc_10_5, xtc_10_6, xtc_10_7, xtc_10_8, xtc_10_9, xtc_10_10, xtc_10_11, xtc_10_12, xtc_10_13, xtc_10_14, xtc_10_15, xtc_10_16, xtc_10_17, xtc_10_18, xtc_10_19, xtc_10_20, xtc_10_21, xtc_10_22, xtc_10_23, xtc_10_24, xtc_10_25, eq_self, reduceIte, Nat.reduceEqDiff, Nat.reduceAdd, Nat.reduceSub, Nat.zero_ne_one, Nat.one_ne_zero, Nat.succ_ne_zero, Nat.reduceLeDiff, reduceCtorEq, and_true, true_and, and_false, false_and, true_implies, false_implies, implies_true, not_true_eq_false, not_false_eq_true, xN_0, xN_s, xlook_c, xlook_n, xb_nil, xb_cons, xlen, xl_cons, xst_def, xst2_def, xdl_nil, xdl_int, xdl_ref, xdl_long, xrv_some, xfit_int, xfit_long, xfit_ref, cat_int, cat_ref, cat_long, xret_int, xret_bool, or_true, true_or, Option.some.injEq, Value.int.injEq, Value.ref.injEq, Value.long.injEq, List.getElem?_cons_zero, List.getElem?_cons_succ, List.set_cons_zero, List.set_cons_succ, List.length_cons, List.length_nil, xup_xup, Classical.not_not, Nat.reduceLT, Nat.zero_lt_succ]
  refine xswitch (t := tX9_count) (dflt := 117) (lo := 0) (hi := 5) (offs := #[39, 47, 55, 63, 81, 99]) (len := 39) (by decide +kernel) (by decide) (by decide) (fun j off h => ?_) (fun j off h hv => ?_) (fun h => ?_)
  · match j, h with
    | 0, h => cases h; decide
    | 1, h => cases h; decide
    | 2, h => cases h; decide
    | 3, h => cases h; decide
    | 4, h => cases h; decide
    | 5, h => cases h; decide
    | j + 6, h => simp at h
  · rw [I_toInt h1 h2] at hv
    match j, h with
    | 0, h =>
      cases h
      have e : v = 0 := by omega
      subst e
      show xX l tX9_count d 0 0 _ 0 0 40 _ _ _ _
      refine xN_ok (t := tX9_count) rfl (T := AX9_count) aX9_count 1 _ _ _ _ _ _ _ ?_
      simp only [AX9_count, oX9_count_0, oX9_count_40, oX9_count_48, oX9_count_56, oX9_count_64, oX9_count_81, oX9_count_82, oX9_count_99, oX9_count_100, oX9_count_117, oX9_count_118, rX9_count, x_iconst, x_bipush, x_sipush, x_lconst, x_iload, x_lload, x_aload, x_istore, x_lstore, x_astore, x_iinc, x_iadd, x_isub, x_imul, x_iand, x_ior, x_ixor, x_ishl, x_ishr, x_ineg, x_ladd, x_lsub, x_lmul, x_ldiv, x_lrem, x_lcmp, x_i2l, x_l2i, x_dup, x_dup_x1, x_dup2, x_if_eq, x_if_ne, x_if_lt, x_if_ge, x_if_gt, x_if_le, x_ic_eq, x_ic_ne, x_ic_lt, x_ic_ge, x_ic_gt, x_ic_le, x_goto, x_ireturn, x_lreturn, x_return, x_getfield, x_putfield, x_iaload, x_baload, x_laload, x_aaload, x_iastore, x_bastore, x_lastore, x_aastore, x_arraylength, x_newarray, x_anewarray, x_new, x_iload_0, x_iload_1, x_iload_2, x_iload_3, x_lload_0, x_lload_1, x_lload_2, x_lload_3, x_aload_0, x_aload_1, x_aload_2, x_aload_3, x_istore_0, x_istore_1, x_istore_2, x_istore_3, x_lstore_0, x_lstore_1, x_lstore_2, x_lstore_3, x_astore_0, x_astore_1, x_astore_2, x_astore_3, q_bipush_m3, q_bipush_m2, q_bipush_6, q_bipush_7, q_bipush_9, q_bipush_10, q_bipush_24, q_bipush_30, q_bipush_48, q_bipush_100, q_sipush_300, q_sipush_1000, q_sipush_24001, q_l0, q_l1, xtc_0_0, xtc_0_1, xtc_0_2, xtc_0_3, xtc_0_4, xtc_0_5, xtc_1_0, xtc_1_1, xtc_1_2, xtc_2_0, xtc_2_1, xtc_3_0, xtc_4_0, xtc_4_1, xtc_4_2, xtc_4_3, xtc_4_4, xtc_4_5, xtc_4_6, xtc_4_7, xtc_4_8, xtc_4_9, xtc_4_10, xtc_4_11, xtc_4_12, xtc_5_0, xtc_5_1, xtc_5_2, xtc_5_3, xtc_5_4, xtc_5_5, xtc_5_6, xtc_6_0, xtc_6_1, xtc_6_2, xtc_7_0, xtc_7_1, xtc_8_0, xtc_8_1, xtc_8_2, xtc_8_3, xtc_9_0, xtc_9_1, xtc_9_2, xtc_9_3, xtc_9_4, xtc_9_5, xtc_9_6, xtc_9_7, xtc_9_8, xtc_9_9, xtc_10_0, xtc_10_1, xtc_10_2, xtc_10_3, xtc_10_4, xtc_10_5, xtc_10_6, xtc_10_7, xtc_10_8, xtc_10_9, xtc_10_10, xtc_10_11, xtc_10_12, xtc_10_13, xtc_10_14, xtc_10_15, xtc_10_16, xtc_10_17, xtc_10_18, xtc_10_19, xtc_10_20, xtc_10_21, xtc_10_22, xtc_10_23, xtc_10_24, xtc_10_25, eq_self, reduceIte, Nat.reduceEqDiff, Nat.reduceAdd, Nat.reduceSub, Nat.zero_ne_one, Nat.one_ne_zero, Nat.succ_ne_zero, Nat.reduceLeDiff, reduceCtorEq, and_true, true_and, and_false, false_and, true_implies, false_implies, implies_true, not_true_eq_false, not_false_eq_true, xN_0, xN_s, xlook_c, xlook_n, xb_nil, xb_cons, xlen, xl_cons, xst_def, xst2_def, xdl_nil, xdl_int, xdl_ref, xdl_long, xrv_some, xfit_int, xfit_long, xfit_ref, cat_int, cat_ref, cat_long, xret_int, xret_bool, or_true, true_or, Option.some.injEq, Value.int.injEq, Value.ref.injEq, Value.long.injEq, List.getElem?_cons_zero, List.getElem?_cons_succ, List.set_cons_zero, List.set_cons_succ, List.length_cons, List.length_nil, xup_xup, Classical.not_not, Nat.reduceLT, Nat.zero_lt_succ, hO, n1]
      simp [spCount]
    | 1, h =>
      cases h
      have e : v = 1 := by omega
      subst e
      show xX l tX9_count d 0 0 _ 0 0 48 _ _ _ _
      refine xN_ok (t := tX9_count) rfl (T := AX9_count) aX9_count 1 _ _ _ _ _ _ _ ?_
      simp only [AX9_count, oX9_count_0, oX9_count_40, oX9_count_48, oX9_count_56, oX9_count_64, oX9_count_81, oX9_count_82, oX9_count_99, oX9_count_100, oX9_count_117, oX9_count_118, rX9_count, x_iconst, x_bipush, x_sipush, x_lconst, x_iload, x_lload, x_aload, x_istore, x_lstore, x_astore, x_iinc, x_iadd, x_isub, x_imul, x_iand, x_ior, x_ixor, x_ishl, x_ishr, x_ineg, x_ladd, x_lsub, x_lmul, x_ldiv, x_lrem, x_lcmp, x_i2l, x_l2i, x_dup, x_dup_x1, x_dup2, x_if_eq, x_if_ne, x_if_lt, x_if_ge, x_if_gt, x_if_le, x_ic_eq, x_ic_ne, x_ic_lt, x_ic_ge, x_ic_gt, x_ic_le, x_goto, x_ireturn, x_lreturn, x_return, x_getfield, x_putfield, x_iaload, x_baload, x_laload, x_aaload, x_iastore, x_bastore, x_lastore, x_aastore, x_arraylength, x_newarray, x_anewarray, x_new, x_iload_0, x_iload_1, x_iload_2, x_iload_3, x_lload_0, x_lload_1, x_lload_2, x_lload_3, x_aload_0, x_aload_1, x_aload_2, x_aload_3, x_istore_0, x_istore_1, x_istore_2, x_istore_3, x_lstore_0, x_lstore_1, x_lstore_2, x_lstore_3, x_astore_0, x_astore_1, x_astore_2, x_astore_3, q_bipush_m3, q_bipush_m2, q_bipush_6, q_bipush_7, q_bipush_9, q_bipush_10, q_bipush_24, q_bipush_30, q_bipush_48, q_bipush_100, q_sipush_300, q_sipush_1000, q_sipush_24001, q_l0, q_l1, xtc_0_0, xtc_0_1, xtc_0_2, xtc_0_3, xtc_0_4, xtc_0_5, xtc_1_0, xtc_1_1, xtc_1_2, xtc_2_0, xtc_2_1, xtc_3_0, xtc_4_0, xtc_4_1, xtc_4_2, xtc_4_3, xtc_4_4, xtc_4_5, xtc_4_6, xtc_4_7, xtc_4_8, xtc_4_9, xtc_4_10, xtc_4_11, xtc_4_12, xtc_5_0, xtc_5_1, xtc_5_2, xtc_5_3, xtc_5_4, xtc_5_5, xtc_5_6, xtc_6_0, xtc_6_1, xtc_6_2, xtc_7_0, xtc_7_1, xtc_8_0, xtc_8_1, xtc_8_2, xtc_8_3, xtc_9_0, xtc_9_1, xtc_9_2, xtc_9_3, xtc_9_4, xtc_9_5, xtc_9_6, xtc_9_7, xtc_9_8, xtc_9_9, xtc_10_0, xtc_10_1, xtc_10_2, xtc_10_3, xtc_10_4, xtc_10_5, xtc_10_6, xtc_10_7, xtc_10_8, xtc_10_9, xtc_10_10, xtc_10_11, xtc_10_12, xtc_10_13, xtc_10_14, xtc_10_15, xtc_10_16, xtc_10_17, xtc_10_18, xtc_10_19, xtc_10_20, xtc_10_21, xtc_10_22, xtc_10_23, xtc_10_24, xtc_10_25, eq_self, reduceIte, Nat.reduceEqDiff, Nat.reduceAdd, Nat.reduceSub, Nat.zero_ne_one, Nat.one_ne_zero, Nat.succ_ne_zero, Nat.reduceLeDiff, reduceCtorEq, and_true, true_and, and_false, false_and, true_implies, false_implies, implies_true, not_true_eq_false, not_false_eq_true, xN_0, xN_s, xlook_c, xlook_n, xb_nil, xb_cons, xlen, xl_cons, xst_def, xst2_def, xdl_nil, xdl_int, xdl_ref, xdl_long, xrv_some, xfit_int, xfit_long, xfit_ref, cat_int, cat_ref, cat_long, xret_int, xret_bool, or_true, true_or, Option.some.injEq, Value.int.injEq, Value.ref.injEq, Value.long.injEq, List.getElem?_cons_zero, List.getElem?_cons_succ, List.set_cons_zero, List.set_cons_succ, List.length_cons, List.length_nil, xup_xup, Classical.not_not, Nat.reduceLT, Nat.zero_lt_succ, hO, n1]
      simp [spCount]
    | 2, h =>
      cases h
      have e : v = 2 := by omega
      subst e
      show xX l tX9_count d 0 0 _ 0 0 56 _ _ _ _
      refine xN_ok (t := tX9_count) rfl (T := AX9_count) aX9_count 1 _ _ _ _ _ _ _ ?_
      simp only [AX9_count, oX9_count_0, oX9_count_40, oX9_count_48, oX9_count_56, oX9_count_64, oX9_count_81, oX9_count_82, oX9_count_99, oX9_count_100, oX9_count_117, oX9_count_118, rX9_count, x_iconst, x_bipush, x_sipush, x_lconst, x_iload, x_lload, x_aload, x_istore, x_lstore, x_astore, x_iinc, x_iadd, x_isub, x_imul, x_iand, x_ior, x_ixor, x_ishl, x_ishr, x_ineg, x_ladd, x_lsub, x_lmul, x_ldiv, x_lrem, x_lcmp, x_i2l, x_l2i, x_dup, x_dup_x1, x_dup2, x_if_eq, x_if_ne, x_if_lt, x_if_ge, x_if_gt, x_if_le, x_ic_eq, x_ic_ne, x_ic_lt, x_ic_ge, x_ic_gt, x_ic_le, x_goto, x_ireturn, x_lreturn, x_return, x_getfield, x_putfield, x_iaload, x_baload, x_laload, x_aaload, x_iastore, x_bastore, x_lastore, x_aastore, x_arraylength, x_newarray, x_anewarray, x_new, x_iload_0, x_iload_1, x_iload_2, x_iload_3, x_lload_0, x_lload_1, x_lload_2, x_lload_3, x_aload_0, x_aload_1, x_aload_2, x_aload_3, x_istore_0, x_istore_1, x_istore_2, x_istore_3, x_lstore_0, x_lstore_1, x_lstore_2, x_lstore_3, x_astore_0, x_astore_1, x_astore_2, x_astore_3, q_bipush_m3, q_bipush_m2, q_bipush_6, q_bipush_7, q_bipush_9, q_bipush_10, q_bipush_24, q_bipush_30, q_bipush_48, q_bipush_100, q_sipush_300, q_sipush_1000, q_sipush_24001, q_l0, q_l1, xtc_0_0, xtc_0_1, xtc_0_2, xtc_0_3, xtc_0_4, xtc_0_5, xtc_1_0, xtc_1_1, xtc_1_2, xtc_2_0, xtc_2_1, xtc_3_0, xtc_4_0, xtc_4_1, xtc_4_2, xtc_4_3, xtc_4_4, xtc_4_5, xtc_4_6, xtc_4_7, xtc_4_8, xtc_4_9, xtc_4_10, xtc_4_11, xtc_4_12, xtc_5_0, xtc_5_1, xtc_5_2, xtc_5_3, xtc_5_4, xtc_5_5, xtc_5_6, xtc_6_0, xtc_6_1, xtc_6_2, xtc_7_0, xtc_7_1, xtc_8_0, xtc_8_1, xtc_8_2, xtc_8_3, xtc_9_0, xtc_9_1, xtc_9_2, xtc_9_3, xtc_9_4, xtc_9_5, xtc_9_6, xtc_9_7, xtc_9_8, xtc_9_9, xtc_10_0, xtc_10_1, xtc_10_2, xtc_10_3, xtc_10_4, xtc_10_5, xtc_10_6, xtc_10_7, xtc_10_8, xtc_10_9, xtc_10_10, xtc_10_11, xtc_10_12, xtc_10_13, xtc_10_14, xtc_10_15, xtc_10_16, xtc_10_17, xtc_10_18, xtc_10_19, xtc_10_20, xtc_10_21, xtc_10_22, xtc_10_23, xtc_10_24, xtc_10_25, eq_self, reduceIte, Nat.reduceEqDiff, Nat.reduceAdd, Nat.reduceSub, Nat.zero_ne_one, Nat.one_ne_zero, Nat.succ_ne_zero, Nat.reduceLeDiff, reduceCtorEq, and_true, true_and, and_false, false_and, true_implies, false_implies, implies_true, not_true_eq_false, not_false_eq_true, xN_0, xN_s, xlook_c, xlook_n, xb_nil, xb_cons, xlen, xl_cons, xst_def, xst2_def, xdl_nil, xdl_int, xdl_ref, xdl_long, xrv_some, xfit_int, xfit_long, xfit_ref, cat_int, cat_ref, cat_long, xret_int, xret_bool, or_true, true_or, Option.some.injEq, Value.int.injEq, Value.ref.injEq, Value.long.injEq, List.getElem?_cons_zero, List.getElem?_cons_succ, List.set_cons_zero, List.set_cons_succ, List.length_cons, List.length_nil, xup_xup, Classical.not_not, Nat.reduceLT, Nat.zero_lt_succ, hO, n1]
      simp [spCount]
    | 3, h =>
      cases h
      have e : v = 3 := by omega
      subst e
      show xX l tX9_count d 0 0 _ 0 0 64 _ _ _ _
      refine xN_ok (t := tX9_count) rfl (T := AX9_count) aX9_count 1 _ _ _ _ _ _ _ ?_
      simp only [AX9_count, oX9_count_0, oX9_count_40, oX9_count_48, oX9_count_56, oX9_count_64, oX9_count_81, oX9_count_82, oX9_count_99, oX9_count_100, oX9_count_117, oX9_count_118, rX9_count, x_iconst, x_bipush, x_sipush, x_lconst, x_iload, x_lload, x_aload, x_istore, x_lstore, x_astore, x_iinc, x_iadd, x_isub, x_imul, x_iand, x_ior, x_ixor, x_ishl, x_ishr, x_ineg, x_ladd, x_lsub, x_lmul, x_ldiv, x_lrem, x_lcmp, x_i2l, x_l2i, x_dup, x_dup_x1, x_dup2, x_if_eq, x_if_ne, x_if_lt, x_if_ge, x_if_gt, x_if_le, x_ic_eq, x_ic_ne, x_ic_lt, x_ic_ge, x_ic_gt, x_ic_le, x_goto, x_ireturn, x_lreturn, x_return, x_getfield, x_putfield, x_iaload, x_baload, x_laload, x_aaload, x_iastore, x_bastore, x_lastore, x_aastore, x_arraylength, x_newarray, x_anewarray, x_new, x_iload_0, x_iload_1, x_iload_2, x_iload_3, x_lload_0, x_lload_1, x_lload_2, x_lload_3, x_aload_0, x_aload_1, x_aload_2, x_aload_3, x_istore_0, x_istore_1, x_istore_2, x_istore_3, x_lstore_0, x_lstore_1, x_lstore_2, x_lstore_3, x_astore_0, x_astore_1, x_astore_2, x_astore_3, q_bipush_m3, q_bipush_m2, q_bipush_6, q_bipush_7, q_bipush_9, q_bipush_10, q_bipush_24, q_bipush_30, q_bipush_48, q_bipush_100, q_sipush_300, q_sipush_1000, q_sipush_24001, q_l0, q_l1, xtc_0_0, xtc_0_1, xtc_0_2, xtc_0_3, xtc_0_4, xtc_0_5, xtc_1_0, xtc_1_1, xtc_1_2, xtc_2_0, xtc_2_1, xtc_3_0, xtc_4_0, xtc_4_1, xtc_4_2, xtc_4_3, xtc_4_4, xtc_4_5, xtc_4_6, xtc_4_7, xtc_4_8, xtc_4_9, xtc_4_10, xtc_4_11, xtc_4_12, xtc_5_0, xtc_5_1, xtc_5_2, xtc_5_3, xtc_5_4, xtc_5_5, xtc_5_6, xtc_6_0, xtc_6_1, xtc_6_2, xtc_7_0, xtc_7_1, xtc_8_0, xtc_8_1, xtc_8_2, xtc_8_3, xtc_9_0, xtc_9_1, xtc_9_2, xtc_9_3, xtc_9_4, xtc_9_5, xtc_9_6, xtc_9_7, xtc_9_8, xtc_9_9, xtc_10_0, xtc_10_1, xtc_10_2, xtc_10_3, xtc_10_4, xtc_10_5, xtc_10_6, xtc_10_7, xtc_10_8, xtc_10_9, xtc_10_10, xtc_10_11, xtc_10_12, xtc_10_13, xtc_10_14, xtc_10_15, xtc_10_16, xtc_10_17, xtc_10_18, xtc_10_19, xtc_10_20, xtc_10_21, xtc_10_22, xtc_10_23, xtc_10_24, xtc_10_25, eq_self, reduceIte, Nat.reduceEqDiff, Nat.reduceAdd, Nat.reduceSub, Nat.zero_ne_one, Nat.one_ne_zero, Nat.succ_ne_zero, Nat.reduceLeDiff, reduceCtorEq, and_true, true_and, and_false, false_and, true_implies, false_implies, implies_true, not_true_eq_false, not_false_eq_true, xN_0, xN_s, xlook_c, xlook_n, xb_nil, xb_cons, xlen, xl_cons, xst_def, xst2_def, xdl_nil, xdl_int, xdl_ref, xdl_long, xrv_some, xfit_int, xfit_long, xfit_ref, cat_int, cat_ref, cat_long, xret_int, xret_bool, or_true, true_or, Option.some.injEq, Value.int.injEq, Value.ref.injEq, Value.long.injEq, List.getElem?_cons_zero, List.getElem?_cons_succ, List.set_cons_zero, List.set_cons_succ, List.length_cons, List.length_nil, xup_xup, Classical.not_not, Nat.reduceLT, Nat.zero_lt_succ, hO, n1]
      refine cX9_count_78 (dc := 0) (cc := 0) (cs := 0) (by omega) (by omega) (by omega) (Nat.le_of_ble_eq_true rfl) (w_sumOfFirst l 0 n ws n4 (by omega) (by omega)) (pureQ ?_)
      simp only [Option.toList_some, Option.toList_none, List.cons_append, List.nil_append, Nat.sub_zero, Nat.reduceSub, Nat.sub_self]
      refine xN_ok (t := tX9_count) rfl (T := AX9_count) aX9_count 1 _ _ _ _ _ _ _ ?_
      simp only [AX9_count, oX9_count_0, oX9_count_40, oX9_count_48, oX9_count_56, oX9_count_64, oX9_count_81, oX9_count_82, oX9_count_99, oX9_count_100, oX9_count_117, oX9_count_118, rX9_count, x_iconst, x_bipush, x_sipush, x_lconst, x_iload, x_lload, x_aload, x_istore, x_lstore, x_astore, x_iinc, x_iadd, x_isub, x_imul, x_iand, x_ior, x_ixor, x_ishl, x_ishr, x_ineg, x_ladd, x_lsub, x_lmul, x_ldiv, x_lrem, x_lcmp, x_i2l, x_l2i, x_dup, x_dup_x1, x_dup2, x_if_eq, x_if_ne, x_if_lt, x_if_ge, x_if_gt, x_if_le, x_ic_eq, x_ic_ne, x_ic_lt, x_ic_ge, x_ic_gt, x_ic_le, x_goto, x_ireturn, x_lreturn, x_return, x_getfield, x_putfield, x_iaload, x_baload, x_laload, x_aaload, x_iastore, x_bastore, x_lastore, x_aastore, x_arraylength, x_newarray, x_anewarray, x_new, x_iload_0, x_iload_1, x_iload_2, x_iload_3, x_lload_0, x_lload_1, x_lload_2, x_lload_3, x_aload_0, x_aload_1, x_aload_2, x_aload_3, x_istore_0, x_istore_1, x_istore_2, x_istore_3, x_lstore_0, x_lstore_1, x_lstore_2, x_lstore_3, x_astore_0, x_astore_1, x_astore_2, x_astore_3, q_bipush_m3, q_bipush_m2, q_bipush_6, q_bipush_7, q_bipush_9, q_bipush_10, q_bipush_24, q_bipush_30, q_bipush_48, q_bipush_100, q_sipush_300, q_sipush_1000, q_sipush_24001, q_l0, q_l1, xtc_0_0, xtc_0_1, xtc_0_2, xtc_0_3, xtc_0_4, xtc_0_5, xtc_1_0, xtc_1_1, xtc_1_2, xtc_2_0, xtc_2_1, xtc_3_0, xtc_4_0, xtc_4_1, xtc_4_2, xtc_4_3, xtc_4_4, xtc_4_5, xtc_4_6, xtc_4_7, xtc_4_8, xtc_4_9, xtc_4_10, xtc_4_11, xtc_4_12, xtc_5_0, xtc_5_1, xtc_5_2, xtc_5_3, xtc_5_4, xtc_5_5, xtc_5_6, xtc_6_0, xtc_6_1, xtc_6_2, xtc_7_0, xtc_7_1, xtc_8_0, xtc_8_1, xtc_8_2, xtc_8_3, xtc_9_0, xtc_9_1, xtc_9_2, xtc_9_3, xtc_9_4, xtc_9_5, xtc_9_6, xtc_9_7, xtc_9_8, xtc_9_9, xtc_10_0, xtc_10_1, xtc_10_2, xtc_10_3, xtc_10_4, xtc_10_5, xtc_10_6, xtc_10_7, xtc_10_8, xtc_10_9, xtc_10_10, xtc_10_11, xtc_10_12, xtc_10_13, xtc_10_14, xtc_10_15, xtc_10_16, xtc_10_17, xtc_10_18, xtc_10_19, xtc_10_20, xtc_10_21, xtc_10_22, xtc_10_23, xtc_10_24, xtc_10_25, eq_self, reduceIte, Nat.reduceEqDiff, Nat.reduceAdd, Nat.reduceSub, Nat.zero_ne_one, Nat.one_ne_zero, Nat.succ_ne_zero, Nat.reduceLeDiff, reduceCtorEq, and_true, true_and, and_false, false_and, true_implies, false_implies, implies_true, not_true_eq_false, not_false_eq_true, xN_0, xN_s, xlook_c, xlook_n, xb_nil, xb_cons, xlen, xl_cons, xst_def, xst2_def, xdl_nil, xdl_int, xdl_ref, xdl_long, xrv_some, xfit_int, xfit_long, xfit_ref, cat_int, cat_ref, cat_long, xret_int, xret_bool, or_true, true_or, Option.some.injEq, Value.int.injEq, Value.ref.injEq, Value.long.injEq, List.getElem?_cons_zero, List.getElem?_cons_succ, List.set_cons_zero, List.set_cons_succ, List.length_cons, List.length_nil, xup_xup, Classical.not_not, Nat.reduceLT, Nat.zero_lt_succ]
      simp [spCount]
    | 4, h =>
      cases h
      have e : v = 4 := by omega
      subst e
      show xX l tX9_count d 0 0 _ 0 0 82 _ _ _ _
      refine xN_ok (t := tX9_count) rfl (T := AX9_count) aX9_count 1 _ _ _ _ _ _ _ ?_
      simp only [AX9_count, oX9_count_0, oX9_count_40, oX9_count_48, oX9_count_56, oX9_count_64, oX9_count_81, oX9_count_82, oX9_count_99, oX9_count_100, oX9_count_117, oX9_count_118, rX9_count, x_iconst, x_bipush, x_sipush, x_lconst, x_iload, x_lload, x_aload, x_istore, x_lstore, x_astore, x_iinc, x_iadd, x_isub, x_imul, x_iand, x_ior, x_ixor, x_ishl, x_ishr, x_ineg, x_ladd, x_lsub, x_lmul, x_ldiv, x_lrem, x_lcmp, x_i2l, x_l2i, x_dup, x_dup_x1, x_dup2, x_if_eq, x_if_ne, x_if_lt, x_if_ge, x_if_gt, x_if_le, x_ic_eq, x_ic_ne, x_ic_lt, x_ic_ge, x_ic_gt, x_ic_le, x_goto, x_ireturn, x_lreturn, x_return, x_getfield, x_putfield, x_iaload, x_baload, x_laload, x_aaload, x_iastore, x_bastore, x_lastore, x_aastore, x_arraylength, x_newarray, x_anewarray, x_new, x_iload_0, x_iload_1, x_iload_2, x_iload_3, x_lload_0, x_lload_1, x_lload_2, x_lload_3, x_aload_0, x_aload_1, x_aload_2, x_aload_3, x_istore_0, x_istore_1, x_istore_2, x_istore_3, x_lstore_0, x_lstore_1, x_lstore_2, x_lstore_3, x_astore_0, x_astore_1, x_astore_2, x_astore_3, q_bipush_m3, q_bipush_m2, q_bipush_6, q_bipush_7, q_bipush_9, q_bipush_10, q_bipush_24, q_bipush_30, q_bipush_48, q_bipush_100, q_sipush_300, q_sipush_1000, q_sipush_24001, q_l0, q_l1, xtc_0_0, xtc_0_1, xtc_0_2, xtc_0_3, xtc_0_4, xtc_0_5, xtc_1_0, xtc_1_1, xtc_1_2, xtc_2_0, xtc_2_1, xtc_3_0, xtc_4_0, xtc_4_1, xtc_4_2, xtc_4_3, xtc_4_4, xtc_4_5, xtc_4_6, xtc_4_7, xtc_4_8, xtc_4_9, xtc_4_10, xtc_4_11, xtc_4_12, xtc_5_0, xtc_5_1, xtc_5_2, xtc_5_3, xtc_5_4, xtc_5_5, xtc_5_6, xtc_6_0, xtc_6_1, xtc_6_2, xtc_7_0, xtc_7_1, xtc_8_0, xtc_8_1, xtc_8_2, xtc_8_3, xtc_9_0, xtc_9_1, xtc_9_2, xtc_9_3, xtc_9_4, xtc_9_5, xtc_9_6, xtc_9_7, xtc_9_8, xtc_9_9, xtc_10_0, xtc_10_1, xtc_10_2, xtc_10_3, xtc_10_4, xtc_10_5, xtc_10_6, xtc_10_7, xtc_10_8, xtc_10_9, xtc_10_10, xtc_10_11, xtc_10_12, xtc_10_13, xtc_10_14, xtc_10_15, xtc_10_16, xtc_10_17, xtc_10_18, xtc_10_19, xtc_10_20, xtc_10_21, xtc_10_22, xtc_10_23, xtc_10_24, xtc_10_25, eq_self, reduceIte, Nat.reduceEqDiff, Nat.reduceAdd, Nat.reduceSub, Nat.zero_ne_one, Nat.one_ne_zero, Nat.succ_ne_zero, Nat.reduceLeDiff, reduceCtorEq, and_true, true_and, and_false, false_and, true_implies, false_implies, implies_true, not_true_eq_false, not_false_eq_true, xN_0, xN_s, xlook_c, xlook_n, xb_nil, xb_cons, xlen, xl_cons, xst_def, xst2_def, xdl_nil, xdl_int, xdl_ref, xdl_long, xrv_some, xfit_int, xfit_long, xfit_ref, cat_int, cat_ref, cat_long, xret_int, xret_bool, or_true, true_or, Option.some.injEq, Value.int.injEq, Value.ref.injEq, Value.long.injEq, List.getElem?_cons_zero, List.getElem?_cons_succ, List.set_cons_zero, List.set_cons_succ, List.length_cons, List.length_nil, xup_xup, Classical.not_not, Nat.reduceLT, Nat.zero_lt_succ, hO, n1]
      refine cX9_count_96 (dc := 0) (cc := 0) (cs := 0) (by omega) (by omega) (by omega) (Nat.le_of_ble_eq_true rfl) (w_sumOfFirst l 0 n ws n8 (by omega) (by omega)) (pureQ ?_)
      simp only [Option.toList_some, Option.toList_none, List.cons_append, List.nil_append, Nat.sub_zero, Nat.reduceSub, Nat.sub_self]
      refine xN_ok (t := tX9_count) rfl (T := AX9_count) aX9_count 1 _ _ _ _ _ _ _ ?_
      simp only [AX9_count, oX9_count_0, oX9_count_40, oX9_count_48, oX9_count_56, oX9_count_64, oX9_count_81, oX9_count_82, oX9_count_99, oX9_count_100, oX9_count_117, oX9_count_118, rX9_count, x_iconst, x_bipush, x_sipush, x_lconst, x_iload, x_lload, x_aload, x_istore, x_lstore, x_astore, x_iinc, x_iadd, x_isub, x_imul, x_iand, x_ior, x_ixor, x_ishl, x_ishr, x_ineg, x_ladd, x_lsub, x_lmul, x_ldiv, x_lrem, x_lcmp, x_i2l, x_l2i, x_dup, x_dup_x1, x_dup2, x_if_eq, x_if_ne, x_if_lt, x_if_ge, x_if_gt, x_if_le, x_ic_eq, x_ic_ne, x_ic_lt, x_ic_ge, x_ic_gt, x_ic_le, x_goto, x_ireturn, x_lreturn, x_return, x_getfield, x_putfield, x_iaload, x_baload, x_laload, x_aaload, x_iastore, x_bastore, x_lastore, x_aastore, x_arraylength, x_newarray, x_anewarray, x_new, x_iload_0, x_iload_1, x_iload_2, x_iload_3, x_lload_0, x_lload_1, x_lload_2, x_lload_3, x_aload_0, x_aload_1, x_aload_2, x_aload_3, x_istore_0, x_istore_1, x_istore_2, x_istore_3, x_lstore_0, x_lstore_1, x_lstore_2, x_lstore_3, x_astore_0, x_astore_1, x_astore_2, x_astore_3, q_bipush_m3, q_bipush_m2, q_bipush_6, q_bipush_7, q_bipush_9, q_bipush_10, q_bipush_24, q_bipush_30, q_bipush_48, q_bipush_100, q_sipush_300, q_sipush_1000, q_sipush_24001, q_l0, q_l1, xtc_0_0, xtc_0_1, xtc_0_2, xtc_0_3, xtc_0_4, xtc_0_5, xtc_1_0, xtc_1_1, xtc_1_2, xtc_2_0, xtc_2_1, xtc_3_0, xtc_4_0, xtc_4_1, xtc_4_2, xtc_4_3, xtc_4_4, xtc_4_5, xtc_4_6, xtc_4_7, xtc_4_8, xtc_4_9, xtc_4_10, xtc_4_11, xtc_4_12, xtc_5_0, xtc_5_1, xtc_5_2, xtc_5_3, xtc_5_4, xtc_5_5, xtc_5_6, xtc_6_0, xtc_6_1, xtc_6_2, xtc_7_0, xtc_7_1, xtc_8_0, xtc_8_1, xtc_8_2, xtc_8_3, xtc_9_0, xtc_9_1, xtc_9_2, xtc_9_3, xtc_9_4, xtc_9_5, xtc_9_6, xtc_9_7, xtc_9_8, xtc_9_9, xtc_10_0, xtc_10_1, xtc_10_2, xtc_10_3, xtc_10_4, xtc_10_5, xtc_10_6, xtc_10_7, xtc_10_8, xtc_10_9, xtc_10_10, xtc_10_11, xtc_10_12, xtc_10_13, xtc_10_14, xtc_10_15, xtc_10_16, xtc_10_17, xtc_10_18, xtc_10_19, xtc_10_20, xtc_10_21, xtc_10_22, xtc_10_23, xtc_10_24, xtc_10_25, eq_self, reduceIte, Nat.reduceEqDiff, Nat.reduceAdd, Nat.reduceSub, Nat.zero_ne_one, Nat.one_ne_zero, Nat.succ_ne_zero, Nat.reduceLeDiff, reduceCtorEq, and_true, true_and, and_false, false_and, true_implies, false_implies, implies_true, not_true_eq_false, not_false_eq_true, xN_0, xN_s, xlook_c, xlook_n, xb_nil, xb_cons, xlen, xl_cons, xst_def, xst2_def, xdl_nil, xdl_int, xdl_ref, xdl_long, xrv_some, xfit_int, xfit_long, xfit_ref, cat_int, cat_ref, cat_long, xret_int, xret_bool, or_true, true_or, Option.some.injEq, Value.int.injEq, Value.ref.injEq, Value.long.injEq, List.getElem?_cons_zero, List.getElem?_cons_succ, List.set_cons_zero, List.set_cons_succ, List.length_cons, List.length_nil, xup_xup, Classical.not_not, Nat.reduceLT, Nat.zero_lt_succ]
      simp [spCount]
    | 5, h =>
      cases h
      have e : v = 5 := by omega
      subst e
      show xX l tX9_count d 0 0 _ 0 0 100 _ _ _ _
      refine xN_ok (t := tX9_count) rfl (T := AX9_count) aX9_count 1 _ _ _ _ _ _ _ ?_
      simp only [AX9_count, oX9_count_0, oX9_count_40, oX9_count_48, oX9_count_56, oX9_count_64, oX9_count_81, oX9_count_82, oX9_count_99, oX9_count_100, oX9_count_117, oX9_count_118, rX9_count, x_iconst, x_bipush, x_sipush, x_lconst, x_iload, x_lload, x_aload, x_istore, x_lstore, x_astore, x_iinc, x_iadd, x_isub, x_imul, x_iand, x_ior, x_ixor, x_ishl, x_ishr, x_ineg, x_ladd, x_lsub, x_lmul, x_ldiv, x_lrem, x_lcmp, x_i2l, x_l2i, x_dup, x_dup_x1, x_dup2, x_if_eq, x_if_ne, x_if_lt, x_if_ge, x_if_gt, x_if_le, x_ic_eq, x_ic_ne, x_ic_lt, x_ic_ge, x_ic_gt, x_ic_le, x_goto, x_ireturn, x_lreturn, x_return, x_getfield, x_putfield, x_iaload, x_baload, x_laload, x_aaload, x_iastore, x_bastore, x_lastore, x_aastore, x_arraylength, x_newarray, x_anewarray, x_new, x_iload_0, x_iload_1, x_iload_2, x_iload_3, x_lload_0, x_lload_1, x_lload_2, x_lload_3, x_aload_0, x_aload_1, x_aload_2, x_aload_3, x_istore_0, x_istore_1, x_istore_2, x_istore_3, x_lstore_0, x_lstore_1, x_lstore_2, x_lstore_3, x_astore_0, x_astore_1, x_astore_2, x_astore_3, q_bipush_m3, q_bipush_m2, q_bipush_6, q_bipush_7, q_bipush_9, q_bipush_10, q_bipush_24, q_bipush_30, q_bipush_48, q_bipush_100, q_sipush_300, q_sipush_1000, q_sipush_24001, q_l0, q_l1, xtc_0_0, xtc_0_1, xtc_0_2, xtc_0_3, xtc_0_4, xtc_0_5, xtc_1_0, xtc_1_1, xtc_1_2, xtc_2_0, xtc_2_1, xtc_3_0, xtc_4_0, xtc_4_1, xtc_4_2, xtc_4_3, xtc_4_4, xtc_4_5, xtc_4_6, xtc_4_7, xtc_4_8, xtc_4_9, xtc_4_10, xtc_4_11, xtc_4_12, xtc_5_0, xtc_5_1, xtc_5_2, xtc_5_3, xtc_5_4, xtc_5_5, xtc_5_6, xtc_6_0, xtc_6_1, xtc_6_2, xtc_7_0, xtc_7_1, xtc_8_0, xtc_8_1, xtc_8_2, xtc_8_3, xtc_9_0, xtc_9_1, xtc_9_2, xtc_9_3, xtc_9_4, xtc_9_5, xtc_9_6, xtc_9_7, xtc_9_8, xtc_9_9, xtc_10_0, xtc_10_1, xtc_10_2, xtc_10_3, xtc_10_4, xtc_10_5, xtc_10_6, xtc_10_7, xtc_10_8, xtc_10_9, xtc_10_10, xtc_10_11, xtc_10_12, xtc_10_13, xtc_10_14, xtc_10_15, xtc_10_16, xtc_10_17, xtc_10_18, xtc_10_19, xtc_10_20, xtc_10_21, xtc_10_22, xtc_10_23, xtc_10_24, xtc_10_25, eq_self, reduceIte, Nat.reduceEqDiff, Nat.reduceAdd, Nat.reduceSub, Nat.zero_ne_one, Nat.one_ne_zero, Nat.succ_ne_zero, Nat.reduceLeDiff, reduceCtorEq, and_true, true_and, and_false, false_and, true_implies, false_implies, implies_true, not_true_eq_false, not_false_eq_true, xN_0, xN_s, xlook_c, xlook_n, xb_nil, xb_cons, xlen, xl_cons, xst_def, xst2_def, xdl_nil, xdl_int, xdl_ref, xdl_long, xrv_some, xfit_int, xfit_long, xfit_ref, cat_int, cat_ref, cat_long, xret_int, xret_bool, or_true, true_or, Option.some.injEq, Value.int.injEq, Value.ref.injEq, Value.long.injEq, List.getElem?_cons_zero, List.getElem?_cons_succ, List.set_cons_zero, List.set_cons_succ, List.length_cons, List.length_nil, xup_xup, Classical.not_not, Nat.reduceLT, Nat.zero_lt_succ, hO, n1]
      refine cX9_count_114 (dc := 0) (cc := 0) (cs := 0) (by omega) (by omega) (by omega) (Nat.le_of_ble_eq_true rfl) (w_sumOfFirst l 0 n ws n9 (by omega) (by omega)) (pureQ ?_)
      simp only [Option.toList_some, Option.toList_none, List.cons_append, List.nil_append, Nat.sub_zero, Nat.reduceSub, Nat.sub_self]
      refine xN_ok (t := tX9_count) rfl (T := AX9_count) aX9_count 1 _ _ _ _ _ _ _ ?_
      simp only [AX9_count, oX9_count_0, oX9_count_40, oX9_count_48, oX9_count_56, oX9_count_64, oX9_count_81, oX9_count_82, oX9_count_99, oX9_count_100, oX9_count_117, oX9_count_118, rX9_count, x_iconst, x_bipush, x_sipush, x_lconst, x_iload, x_lload, x_aload, x_istore, x_lstore, x_astore, x_iinc, x_iadd, x_isub, x_imul, x_iand, x_ior, x_ixor, x_ishl, x_ishr, x_ineg, x_ladd, x_lsub, x_lmul, x_ldiv, x_lrem, x_lcmp, x_i2l, x_l2i, x_dup, x_dup_x1, x_dup2, x_if_eq, x_if_ne, x_if_lt, x_if_ge, x_if_gt, x_if_le, x_ic_eq, x_ic_ne, x_ic_lt, x_ic_ge, x_ic_gt, x_ic_le, x_goto, x_ireturn, x_lreturn, x_return, x_getfield, x_putfield, x_iaload, x_baload, x_laload, x_aaload, x_iastore, x_bastore, x_lastore, x_aastore, x_arraylength, x_newarray, x_anewarray, x_new, x_iload_0, x_iload_1, x_iload_2, x_iload_3, x_lload_0, x_lload_1, x_lload_2, x_lload_3, x_aload_0, x_aload_1, x_aload_2, x_aload_3, x_istore_0, x_istore_1, x_istore_2, x_istore_3, x_lstore_0, x_lstore_1, x_lstore_2, x_lstore_3, x_astore_0, x_astore_1, x_astore_2, x_astore_3, q_bipush_m3, q_bipush_m2, q_bipush_6, q_bipush_7, q_bipush_9, q_bipush_10, q_bipush_24, q_bipush_30, q_bipush_48, q_bipush_100, q_sipush_300, q_sipush_1000, q_sipush_24001, q_l0, q_l1, xtc_0_0, xtc_0_1, xtc_0_2, xtc_0_3, xtc_0_4, xtc_0_5, xtc_1_0, xtc_1_1, xtc_1_2, xtc_2_0, xtc_2_1, xtc_3_0, xtc_4_0, xtc_4_1, xtc_4_2, xtc_4_3, xtc_4_4, xtc_4_5, xtc_4_6, xtc_4_7, xtc_4_8, xtc_4_9, xtc_4_10, xtc_4_11, xtc_4_12, xtc_5_0, xtc_5_1, xtc_5_2, xtc_5_3, xtc_5_4, xtc_5_5, xtc_5_6, xtc_6_0, xtc_6_1, xtc_6_2, xtc_7_0, xtc_7_1, xtc_8_0, xtc_8_1, xtc_8_2, xtc_8_3, xtc_9_0, xtc_9_1, xtc_9_2, xtc_9_3, xtc_9_4, xtc_9_5, xtc_9_6, xtc_9_7, xtc_9_8, xtc_9_9, xtc_10_0, xtc_10_1, xtc_10_2, xtc_10_3, xtc_10_4, xtc_10_5, xtc_10_6, xtc_10_7, xtc_10_8, xtc_10_9, xtc_10_10, xtc_10_11, xtc_10_12, xtc_10_13, xtc_10_14, xtc_10_15, xtc_10_16, xtc_10_17, xtc_10_18, xtc_10_19, xtc_10_20, xtc_10_21, xtc_10_22, xtc_10_23, xtc_10_24, xtc_10_25, eq_self, reduceIte, Nat.reduceEqDiff, Nat.reduceAdd, Nat.reduceSub, Nat.zero_ne_one, Nat.one_ne_zero, Nat.succ_ne_zero, Nat.reduceLeDiff, reduceCtorEq, and_true, true_and, and_false, false_and, true_implies, false_implies, implies_true, not_true_eq_false, not_false_eq_true, xN_0, xN_s, xlook_c, xlook_n, xb_nil, xb_cons, xlen, xl_cons, xst_def, xst2_def, xdl_nil, xdl_int, xdl_ref, xdl_long, xrv_some, xfit_int, xfit_long, xfit_ref, cat_int, cat_ref, cat_long, xret_int, xret_bool, or_true, true_or, Option.some.injEq, Value.int.injEq, Value.ref.injEq, Value.long.injEq, List.getElem?_cons_zero, List.getElem?_cons_succ, List.set_cons_zero, List.set_cons_succ, List.length_cons, List.length_nil, xup_xup, Classical.not_not, Nat.reduceLT, Nat.zero_lt_succ]
      simp [spCount]
    | j + 6, h => simp at h
  · rw [I_toInt h1 h2] at h
    show xX l tX9_count d 0 0 _ 0 0 118 _ _ _ _
    refine xN_ok (t := tX9_count) rfl (T := AX9_count) aX9_count 1 _ _ _ _ _ _ _ ?_
    simp only [AX9_count, oX9_count_0, oX9_count_40, oX9_count_48, oX9_count_56, oX9_count_64, oX9_count_81, oX9_count_82, oX9_count_99, oX9_count_100, oX9_count_117, oX9_count_118, rX9_count, x_iconst, x_bipush, x_sipush, x_lconst, x_iload, x_lload, x_aload, x_istore, x_lstore, x_astore, x_iinc, x_iadd, x_isub, x_imul, x_iand, x_ior, x_ixor, x_ishl, x_ishr, x_ineg, x_ladd, x_lsub, x_lmul, x_ldiv, x_lrem, x_lcmp, x_i2l, x_l2i, x_dup, x_dup_x1, x_dup2, x_if_eq, x_if_ne, x_if_lt, x_if_ge, x_if_gt, x_if_le, x_ic_eq, x_ic_ne, x_ic_lt, x_ic_ge, x_ic_gt, x_ic_le, x_goto, x_ireturn, x_lreturn, x_return, x_getfield, x_putfield, x_iaload, x_baload, x_laload, x_aaload, x_iastore, x_bastore, x_lastore, x_aastore, x_arraylength, x_newarray, x_anewarray, x_new, x_iload_0, x_iload_1, x_iload_2, x_iload_3, x_lload_0, x_lload_1, x_lload_2, x_lload_3, x_aload_0, x_aload_1, x_aload_2, x_aload_3, x_istore_0, x_istore_1, x_istore_2, x_istore_3, x_lstore_0, x_lstore_1, x_lstore_2, x_lstore_3, x_astore_0, x_astore_1, x_astore_2, x_astore_3, q_bipush_m3, q_bipush_m2, q_bipush_6, q_bipush_7, q_bipush_9, q_bipush_10, q_bipush_24, q_bipush_30, q_bipush_48, q_bipush_100, q_sipush_300, q_sipush_1000, q_sipush_24001, q_l0, q_l1, xtc_0_0, xtc_0_1, xtc_0_2, xtc_0_3, xtc_0_4, xtc_0_5, xtc_1_0, xtc_1_1, xtc_1_2, xtc_2_0, xtc_2_1, xtc_3_0, xtc_4_0, xtc_4_1, xtc_4_2, xtc_4_3, xtc_4_4, xtc_4_5, xtc_4_6, xtc_4_7, xtc_4_8, xtc_4_9, xtc_4_10, xtc_4_11, xtc_4_12, xtc_5_0, xtc_5_1, xtc_5_2, xtc_5_3, xtc_5_4, xtc_5_5, xtc_5_6, xtc_6_0, xtc_6_1, xtc_6_2, xtc_7_0, xtc_7_1, xtc_8_0, xtc_8_1, xtc_8_2, xtc_8_3, xtc_9_0, xtc_9_1, xtc_9_2, xtc_9_3, xtc_9_4, xtc_9_5, xtc_9_6, xtc_9_7, xtc_9_8, xtc_9_9, xtc_10_0, xtc_10_1, xtc_10_2, xtc_10_3, xtc_10_4, xtc_10_5, xtc_10_6, xtc_10_7, xtc_10_8, xtc_10_9, xtc_10_10, xtc_10_11, xtc_10_12, xtc_10_13, xtc_10_14, xtc_10_15, xtc_10_16, xtc_10_17, xtc_10_18, xtc_10_19, xtc_10_20, xtc_10_21, xtc_10_22, xtc_10_23, xtc_10_24, xtc_10_25, eq_self, reduceIte, Nat.reduceEqDiff, Nat.reduceAdd, Nat.reduceSub, Nat.zero_ne_one, Nat.one_ne_zero, Nat.succ_ne_zero, Nat.reduceLeDiff, reduceCtorEq, and_true, true_and, and_false, false_and, true_implies, false_implies, implies_true, not_true_eq_false, not_false_eq_true, xN_0, xN_s, xlook_c, xlook_n, xb_nil, xb_cons, xlen, xl_cons, xst_def, xst2_def, xdl_nil, xdl_int, xdl_ref, xdl_long, xrv_some, xfit_int, xfit_long, xfit_ref, cat_int, cat_ref, cat_long, xret_int, xret_bool, or_true, true_or, Option.some.injEq, Value.int.injEq, Value.ref.injEq, Value.long.injEq, List.getElem?_cons_zero, List.getElem?_cons_succ, List.set_cons_zero, List.set_cons_succ, List.length_cons, List.length_nil, xup_xup, Classical.not_not, Nat.reduceLT, Nat.zero_lt_succ]
    unfold spCount
    rw [if_neg (by omega), if_neg (by omega), if_neg (by omega), if_neg (by omega), if_neg (by omega), if_neg (by omega)]
/-- the WAYS that are tried: place 104 -/
theorem w_attempt (hO : ObjAt ws pv) (hN : NetAt ws S ver wv) (hw : WF S) (hd : 2 ≤ d) {fA : Nat → Int} (hA : ws 104 = some (0, .inl (ra 6 fA))) {a b : Int} (h1 : -2147483648 ≤ a) (h2 : a < 2147483648) (h3 : -2147483648 ≤ b) (h4 : b < 2147483648) : xM l tX9_attempt d 0 0 [.ref 0, .int (I a), .int (I b)] n ws (fun r n' ws' => n' = n ∧ ((¬ ((0 ≤ a ∧ a < S.ng) ∧ (-1 ≤ b ∧ b ≤ 4)) ∧ r = some (.int (I (-2))) ∧ ws' = ws) ∨ (((0 ≤ a ∧ a < S.ng) ∧ (-1 ≤ b ∧ b ≤ 4)) ∧ r = some (.int (I (fA a.toNat))) ∧ ws' = xup ws 104 (0, .inl (ra 6 (fu fA a.toNat b)))))) := by
  have hN0 := hN
  obtain ⟨n1, n2, n3, n4, n5, n6, n7, n8, n9⟩ := hN
  have hb2 : S.ng ≤ 6 := hw.2.2.1
  unfold ObjAt at hO
  refine xM.of (by decide) (Nat.le_of_ble_eq_true rfl) ?_
  simp only [lv_args, cat_int, cat_ref, cat_long, reduceIte, Nat.reduceEqDiff, Nat.reduceAdd, Nat.one_ne_zero, Nat.reduceLeDiff]
  refine xN_ok (t := tX9_attempt) rfl (T := AX9_attempt) aX9_attempt 1 _ _ _ _ _ _ _ ?_
  simp only [AX9_attempt, oX9_attempt_0, oX9_attempt_8, oX9_attempt_17, oX9_attempt_20, oX9_attempt_23, rX9_attempt, x_iconst, x_bipush, x_sipush, x_lconst, x_iload, x_lload, x_aload, x_istore, x_lstore, x_astore, x_iinc, x_iadd, x_isub, x_imul, x_iand, x_ior, x_ixor, x_ishl, x_ishr, x_ineg, x_ladd, x_lsub, x_lmul, x_ldiv, x_lrem, x_lcmp, x_i2l, x_l2i, x_dup, x_dup_x1, x_dup2, x_if_eq, x_if_ne, x_if_lt, x_if_ge, x_if_gt, x_if_le, x_ic_eq, x_ic_ne, x_ic_lt, x_ic_ge, x_ic_gt, x_ic_le, x_goto, x_ireturn, x_lreturn, x_return, x_getfield, x_putfield, x_iaload, x_baload, x_laload, x_aaload, x_iastore, x_bastore, x_lastore, x_aastore, x_arraylength, x_newarray, x_anewarray, x_new, x_iload_0, x_iload_1, x_iload_2, x_iload_3, x_lload_0, x_lload_1, x_lload_2, x_lload_3, x_aload_0, x_aload_1, x_aload_2, x_aload_3, x_istore_0, x_istore_1, x_istore_2, x_istore_3, x_lstore_0, x_lstore_1, x_lstore_2, x_lstore_3, x_astore_0, x_astore_1, x_astore_2, x_astore_3, q_bipush_m3, q_bipush_m2, q_bipush_6, q_bipush_7, q_bipush_9, q_bipush_10, q_bipush_24, q_bipush_30, q_bipush_48, q_bipush_100, q_sipush_300, q_sipush_1000, q_sipush_24001, q_l0, q_l1, xtc_0_0, xtc_0_1, xtc_0_2, xtc_0_3, xtc_0_4, xtc_0_5, xtc_1_0, xtc_1_1, xtc_1_2, xtc_2_0, xtc_2_1, xtc_3_0, xtc_4_0, xtc_4_1, xtc_4_2, xtc_4_3, xtc_4_4, xtc_4_5, xtc_4_6, xtc_4_7, xtc_4_8, xtc_4_9, xtc_4_10, xtc_4_11, xtc_4_12, xtc_5_0, xtc_5_1, xtc_5_2, xtc_5_3, xtc_5_4, xtc_5_5, xtc_5_6, xtc_6_0, xtc_6_1, xtc_6_2, xtc_7_0, xtc_7_1, xtc_8_0, xtc_8_1, xtc_8_2, xtc_8_3, xtc_9_0, xtc_9_1, xtc_9_2, xtc_9_3, xtc_9_4, xtc_9_5, xtc_9_6, xtc_9_7, xtc_9_8, xtc_9_9, xtc_10_0, xtc_10_1, xtc_10_2, xtc_10_3, xtc_10_4, xtc_10_5, xtc_10_6, xtc_10_7, xtc_10_8, xtc_10_9, xtc_10_10, xtc_10_11, xtc_10_12, xtc_10_13, xtc_10_14, xtc_10_15, xtc_10_16, xtc_10_17, xtc_10_18, xtc_10_19, xtc_10_20, xtc_10_21, xtc_10_22, xtc_10_23, xtc_10_24, xtc_10_25, eq_self, reduceIte, Nat.reduceEqDiff, Nat.reduceAdd, Nat.reduceSub, Nat.zero_ne_one, Nat.one_ne_zero, Nat.succ_ne_zero, Nat.reduceLeDiff, reduceCtorEq, and_true, true_and, and_false, false_and, true_implies, false_implies, implies_true, not_true_eq_false, not_false_eq_true, xN_0, xN_s, xlook_c, xlook_n, xb_nil, xb_cons, xlen, xl_cons, xst_def, xst2_def, xdl_nil, xdl_int, xdl_ref, xdl_long, xrv_some, xfit_int, xfit_long, xfit_ref, cat_int, cat_ref, cat_long, xret_int, xret_bool, or_true, true_or, Option.some.injEq, Value.int.injEq, Value.ref.injEq, Value.long.injEq, List.getElem?_cons_zero, List.getElem?_cons_succ, List.set_cons_zero, List.set_cons_succ, List.length_cons, List.length_nil, xup_xup, Classical.not_not, Nat.reduceLT, Nat.zero_lt_succ, hO]
  refine cX9_attempt_5 n1 (dc := 1) (cc := 0) (cs := 0) (by omega) (by omega) (by omega) (Nat.le_of_ble_eq_true rfl) (w_isGood hN0 (by omega) (by omega) h1 h2) (pureQ ?_)
  simp only [Option.toList_some, Option.toList_none, List.cons_append, List.nil_append, Nat.sub_zero, Nat.reduceSub, Nat.sub_self]
  refine xN_ok (t := tX9_attempt) rfl (T := AX9_attempt) aX9_attempt 2 _ _ _ _ _ _ _ ?_
  simp only [AX9_attempt, oX9_attempt_0, oX9_attempt_8, oX9_attempt_17, oX9_attempt_20, oX9_attempt_23, rX9_attempt, x_iconst, x_bipush, x_sipush, x_lconst, x_iload, x_lload, x_aload, x_istore, x_lstore, x_astore, x_iinc, x_iadd, x_isub, x_imul, x_iand, x_ior, x_ixor, x_ishl, x_ishr, x_ineg, x_ladd, x_lsub, x_lmul, x_ldiv, x_lrem, x_lcmp, x_i2l, x_l2i, x_dup, x_dup_x1, x_dup2, x_if_eq, x_if_ne, x_if_lt, x_if_ge, x_if_gt, x_if_le, x_ic_eq, x_ic_ne, x_ic_lt, x_ic_ge, x_ic_gt, x_ic_le, x_goto, x_ireturn, x_lreturn, x_return, x_getfield, x_putfield, x_iaload, x_baload, x_laload, x_aaload, x_iastore, x_bastore, x_lastore, x_aastore, x_arraylength, x_newarray, x_anewarray, x_new, x_iload_0, x_iload_1, x_iload_2, x_iload_3, x_lload_0, x_lload_1, x_lload_2, x_lload_3, x_aload_0, x_aload_1, x_aload_2, x_aload_3, x_istore_0, x_istore_1, x_istore_2, x_istore_3, x_lstore_0, x_lstore_1, x_lstore_2, x_lstore_3, x_astore_0, x_astore_1, x_astore_2, x_astore_3, q_bipush_m3, q_bipush_m2, q_bipush_6, q_bipush_7, q_bipush_9, q_bipush_10, q_bipush_24, q_bipush_30, q_bipush_48, q_bipush_100, q_sipush_300, q_sipush_1000, q_sipush_24001, q_l0, q_l1, xtc_0_0, xtc_0_1, xtc_0_2, xtc_0_3, xtc_0_4, xtc_0_5, xtc_1_0, xtc_1_1, xtc_1_2, xtc_2_0, xtc_2_1, xtc_3_0, xtc_4_0, xtc_4_1, xtc_4_2, xtc_4_3, xtc_4_4, xtc_4_5, xtc_4_6, xtc_4_7, xtc_4_8, xtc_4_9, xtc_4_10, xtc_4_11, xtc_4_12, xtc_5_0, xtc_5_1, xtc_5_2, xtc_5_3, xtc_5_4, xtc_5_5, xtc_5_6, xtc_6_0, xtc_6_1, xtc_6_2, xtc_7_0, xtc_7_1, xtc_8_0, xtc_8_1, xtc_8_2, xtc_8_3, xtc_9_0, xtc_9_1, xtc_9_2, xtc_9_3, xtc_9_4, xtc_9_5, xtc_9_6, xtc_9_7, xtc_9_8, xtc_9_9, xtc_10_0, xtc_10_1, xtc_10_2, xtc_10_3, xtc_10_4, xtc_10_5, xtc_10_6, xtc_10_7, xtc_10_8, xtc_10_9, xtc_10_10, xtc_10_11, xtc_10_12, xtc_10_13, xtc_10_14, xtc_10_15, xtc_10_16, xtc_10_17, xtc_10_18, xtc_10_19, xtc_10_20, xtc_10_21, xtc_10_22, xtc_10_23, xtc_10_24, xtc_10_25, eq_self, reduceIte, Nat.reduceEqDiff, Nat.reduceAdd, Nat.reduceSub, Nat.zero_ne_one, Nat.one_ne_zero, Nat.succ_ne_zero, Nat.reduceLeDiff, reduceCtorEq, and_true, true_and, and_false, false_and, true_implies, false_implies, implies_true, not_true_eq_false, not_false_eq_true, xN_0, xN_s, xlook_c, xlook_n, xb_nil, xb_cons, xlen, xl_cons, xst_def, xst2_def, xdl_nil, xdl_int, xdl_ref, xdl_long, xrv_some, xfit_int, xfit_long, xfit_ref, cat_int, cat_ref, cat_long, xret_int, xret_bool, or_true, true_or, Option.some.injEq, Value.int.injEq, Value.ref.injEq, Value.long.injEq, List.getElem?_cons_zero, List.getElem?_cons_succ, List.set_cons_zero, List.set_cons_succ, List.length_cons, List.length_nil, xup_xup, Classical.not_not, Nat.reduceLT, Nat.zero_lt_succ, I_b0]
  refine ⟨fun e => Or.inl (fun q => e q.1), fun e => ?_⟩
  refine cX9_attempt_14 (dc := 0) (cc := 0) (cs := 0) (by omega) (by omega) (by omega) (Nat.le_of_ble_eq_true rfl) (w_isWithin l 0 _ _ (by omega) (by omega) (by omega) (by omega) (by omega) (by omega)) (pureQ ?_)
  simp only [Option.toList_some, Option.toList_none, List.cons_append, List.nil_append, Nat.sub_zero, Nat.reduceSub, Nat.sub_self]
  refine xN_ok (t := tX9_attempt) rfl (T := AX9_attempt) aX9_attempt 3 _ _ _ _ _ _ _ ?_
  simp only [AX9_attempt, oX9_attempt_0, oX9_attempt_8, oX9_attempt_17, oX9_attempt_20, oX9_attempt_23, rX9_attempt, x_iconst, x_bipush, x_sipush, x_lconst, x_iload, x_lload, x_aload, x_istore, x_lstore, x_astore, x_iinc, x_iadd, x_isub, x_imul, x_iand, x_ior, x_ixor, x_ishl, x_ishr, x_ineg, x_ladd, x_lsub, x_lmul, x_ldiv, x_lrem, x_lcmp, x_i2l, x_l2i, x_dup, x_dup_x1, x_dup2, x_if_eq, x_if_ne, x_if_lt, x_if_ge, x_if_gt, x_if_le, x_ic_eq, x_ic_ne, x_ic_lt, x_ic_ge, x_ic_gt, x_ic_le, x_goto, x_ireturn, x_lreturn, x_return, x_getfield, x_putfield, x_iaload, x_baload, x_laload, x_aaload, x_iastore, x_bastore, x_lastore, x_aastore, x_arraylength, x_newarray, x_anewarray, x_new, x_iload_0, x_iload_1, x_iload_2, x_iload_3, x_lload_0, x_lload_1, x_lload_2, x_lload_3, x_aload_0, x_aload_1, x_aload_2, x_aload_3, x_istore_0, x_istore_1, x_istore_2, x_istore_3, x_lstore_0, x_lstore_1, x_lstore_2, x_lstore_3, x_astore_0, x_astore_1, x_astore_2, x_astore_3, q_bipush_m3, q_bipush_m2, q_bipush_6, q_bipush_7, q_bipush_9, q_bipush_10, q_bipush_24, q_bipush_30, q_bipush_48, q_bipush_100, q_sipush_300, q_sipush_1000, q_sipush_24001, q_l0, q_l1, xtc_0_0, xtc_0_1, xtc_0_2, xtc_0_3, xtc_0_4, xtc_0_5, xtc_1_0, xtc_1_1, xtc_1_2, xtc_2_0, xtc_2_1, xtc_3_0, xtc_4_0, xtc_4_1, xtc_4_2, xtc_4_3, xtc_4_4, xtc_4_5, xtc_4_6, xtc_4_7, xtc_4_8, xtc_4_9, xtc_4_10, xtc_4_11, xtc_4_12, xtc_5_0, xtc_5_1, xtc_5_2, xtc_5_3, xtc_5_4, xtc_5_5, xtc_5_6, xtc_6_0, xtc_6_1, xtc_6_2, xtc_7_0, xtc_7_1, xtc_8_0, xtc_8_1, xtc_8_2, xtc_8_3, xtc_9_0, xtc_9_1, xtc_9_2, xtc_9_3, xtc_9_4, xtc_9_5, xtc_9_6, xtc_9_7, xtc_9_8, xtc_9_9, xtc_10_0, xtc_10_1, xtc_10_2, xtc_10_3, xtc_10_4, xtc_10_5, xtc_10_6, xtc_10_7, xtc_10_8, xtc_10_9, xtc_10_10, xtc_10_11, xtc_10_12, xtc_10_13, xtc_10_14, xtc_10_15, xtc_10_16, xtc_10_17, xtc_10_18, xtc_10_19, xtc_10_20, xtc_10_21, xtc_10_22, xtc_10_23, xtc_10_24, xtc_10_25, eq_self, reduceIte, Nat.reduceEqDiff, Nat.reduceAdd, Nat.reduceSub, Nat.zero_ne_one, Nat.one_ne_zero, Nat.succ_ne_zero, Nat.reduceLeDiff, reduceCtorEq, and_true, true_and, and_false, false_and, true_implies, false_implies, implies_true, not_true_eq_false, not_false_eq_true, xN_0, xN_s, xlook_c, xlook_n, xb_nil, xb_cons, xlen, xl_cons, xst_def, xst2_def, xdl_nil, xdl_int, xdl_ref, xdl_long, xrv_some, xfit_int, xfit_long, xfit_ref, cat_int, cat_ref, cat_long, xret_int, xret_bool, or_true, true_or, Option.some.injEq, Value.int.injEq, Value.ref.injEq, Value.long.injEq, List.getElem?_cons_zero, List.getElem?_cons_succ, List.set_cons_zero, List.set_cons_succ, List.length_cons, List.length_nil, xup_xup, Classical.not_not, Nat.reduceLT, Nat.zero_lt_succ, I_b0, hO, hA, xup_self, xup_ne, ne_eq, ra_len]
  simp (disch := omega) only [I_lt, I_le, I_eq, I_in, I_add, I_sub, I_mul, I_b0, I_b01, b_eq0, b_eq1, Classical.not_not, ra_get, ra_set, ra_len, Int.toNat_natCast, eq_self, true_and, and_true, ne_eq, not_false_eq_true, not_true_eq_false]
  exact ⟨fun e2 => ⟨by omega, by omega, Or.inr ⟨e, e2⟩⟩, fun e2 => Or.inl (fun q => e2 q.2)⟩
end CNT
end
section
section MOD
variable {l : Launch} {d n : Nat} {ws : xW} {S : St} {bw bs : Int}
/-- the object of the reference: place 121; its arrays 122 .. 129 -/
def ModAt (ws : xW) (S : St) (bw bs : Int) : Prop :=
  ws 121 = some (10, .inr (.inr (.inr [.int (I 0), .int (I S.nn), .int (I S.na), .ref 122, .ref 123, .ref 124, .ref 125, .int (I S.ng), .ref 126, .ref 127, .ref 128, .ref 129, .ref 130, .ref 131, .ref 132, .ref 133, .ref 134, .ref 135, .ref 136, .ref 137, .int (I bw), .int (I bs), .ref 138, .ref 139, .ref 140, .ref 141]))) ∧ ws 122 = some (0, .inl (ra 24 (S.2 0))) ∧ ws 123 = some (0, .inl (ra 24 (S.2 1))) ∧ ws 124 = some (0, .inl (ra 24 (S.2 2))) ∧ ws 125 = some (0, .inl (ra 24 (S.2 3))) ∧ ws 126 = some (0, .inl (ra 6 (S.2 4))) ∧ ws 127 = some (0, .inl (ra 6 (S.2 5))) ∧ ws 128 = some (0, .inl (ra 6 (S.2 6))) ∧ ws 129 = some (0, .inl (ra 6 (S.2 7)))
theorem ModAt.keep {ws ws' : xW} {S : St} {bw bs : Int} (h : ModAt ws S bw bs) (hq : ∀ q, 121 ≤ q → q ≤ 129 → ws' q = ws q) : ModAt ws' S bw bs := by
  obtain ⟨n1, n2, n3, n4, n5, n6, n7, n8, n9⟩ := h
  exact ⟨(hq 121 (by omega) (by omega)).trans n1, (hq 122 (by omega) (by omega)).trans n2, (hq 123 (by omega) (by omega)).trans n3, (hq 124 (by omega) (by omega)).trans n4, (hq 125 (by omega) (by omega)).trans n5, (hq 126 (by omega) (by omega)).trans n6, (hq 127 (by omega) (by omega)).trans n7, (hq 128 (by omega) (by omega)).trans n8, (hq 129 (by omega) (by omega)).trans n9⟩
theorem w_in (l : Launch) (d n : Nat) (ws : xW) {v lo hi : Int} (h1 : -2147483648 ≤ v) (h2 : v < 2147483648) (h3 : -2147483648 ≤ lo) (h4 : lo < 2147483648) (h5 : -2147483648 ≤ hi) (h6 : hi < 2147483648) : xM l tX10_in d 0 0 [.int (I v), .int (I lo), .int (I hi)] n ws (fun r n' ws' => r = some (.int (I (if lo ≤ v ∧ v ≤ hi then 1 else 0))) ∧ n' = n ∧ ws' = ws) := by
  refine xM.of (by decide) (Nat.le_of_ble_eq_true rfl) ?_
  simp only [lv_args, cat_int, cat_ref, cat_long, reduceIte, Nat.reduceEqDiff, Nat.reduceAdd, Nat.one_ne_zero, Nat.reduceLeDiff]
  refine xN_ok (t := tX10_in) rfl (T := AX10_in) aX10_in 5 _ _ _ _ _ _ _ ?_
  simp only [AX10_in, oX10_in_0, oX10_in_14, oX10_in_15, rX10_in, x_iconst, x_bipush, x_sipush, x_lconst, x_iload, x_lload, x_aload, x_istore, x_lstore, x_astore, x_iinc, x_iadd, x_isub, x_imul, x_iand, x_ior, x_ixor, x_ishl, x_ishr, x_ineg, x_ladd, x_lsub, x_lmul, x_ldiv, x_lrem, x_lcmp, x_i2l, x_l2i, x_dup, x_dup_x1, x_dup2, x_if_eq, x_if_ne, x_if_lt, x_if_ge, x_if_gt, x_if_le, x_ic_eq, x_ic_ne, x_ic_lt, x_ic_ge, x_ic_gt, x_ic_le, x_goto, x_ireturn, x_lreturn, x_return, x_getfield, x_putfield, x_iaload, x_baload, x_laload, x_aaload, x_iastore, x_bastore, x_lastore, x_aastore, x_arraylength, x_newarray, x_anewarray, x_new, x_iload_0, x_iload_1, x_iload_2, x_iload_3, x_lload_0, x_lload_1, x_lload_2, x_lload_3, x_aload_0, x_aload_1, x_aload_2, x_aload_3, x_istore_0, x_istore_1, x_istore_2, x_istore_3, x_lstore_0, x_lstore_1, x_lstore_2, x_lstore_3, x_astore_0, x_astore_1, x_astore_2, x_astore_3, q_bipush_m3, q_bipush_m2, q_bipush_6, q_bipush_7, q_bipush_9, q_bipush_10, q_bipush_24, q_bipush_30, q_bipush_48, q_bipush_100, q_sipush_300, q_sipush_1000, q_sipush_24001, q_l0, q_l1, xtc_0_0, xtc_0_1, xtc_0_2, xtc_0_3, xtc_0_4, xtc_0_5, xtc_1_0, xtc_1_1, xtc_1_2, xtc_2_0, xtc_2_1, xtc_3_0, xtc_4_0, xtc_4_1, xtc_4_2, xtc_4_3, xtc_4_4, xtc_4_5, xtc_4_6, xtc_4_7, xtc_4_8, xtc_4_9, xtc_4_10, xtc_4_11, xtc_4_12, xtc_5_0, xtc_5_1, xtc_5_2, xtc_5_3, xtc_5_4, xtc_5_5, xtc_5_6, xtc_6_0, xtc_6_1, xtc_6_2, xtc_7_0, xtc_7_1, xtc_8_0, xtc_8_1, xtc_8_2, xtc_8_3, xtc_9_0, xtc_9_1, xtc_9_2, xtc_9_3, xtc_9_4, xtc_9_5, xtc_9_6, xtc_9_7, xtc_9_8, xtc_9_9, xtc_10_0, xtc_10_1, xtc_10_2, xtc_10_3, xtc_10_4, xtc_10_5, xtc_10_6, xtc_10_7, xtc_10_8, xtc_10_9, xtc_10_10, xtc_10_11, xtc_10_12, xtc_10_13, xtc_10_14, xtc_10_15, xtc_10_16, xtc_10_17, xtc_10_18, xtc_10_19, xtc_10_20, xtc_10_21, xtc_10_22, xtc_10_23, xtc_10_24, xtc_10_25, eq_self, reduceIte, Nat.reduceEqDiff, Nat.reduceAdd, Nat.reduceSub, Nat.zero_ne_one, Nat.one_ne_zero, Nat.succ_ne_zero, Nat.reduceLeDiff, reduceCtorEq, and_true, true_and, and_false, false_and, true_implies, false_implies, implies_true, not_true_eq_false, not_false_eq_true, xN_0, xN_s, xlook_c, xlook_n, xb_nil, xb_cons, xlen, xl_cons, xst_def, xst2_def, xdl_nil, xdl_int, xdl_ref, xdl_long, xrv_some, xfit_int, xfit_long, xfit_ref, cat_int, cat_ref, cat_long, xret_int, xret_bool, or_true, true_or, Option.some.injEq, Value.int.injEq, Value.ref.injEq, Value.long.injEq, List.getElem?_cons_zero, List.getElem?_cons_succ, List.set_cons_zero, List.set_cons_succ, List.length_cons, List.length_nil, xup_xup, Classical.not_not, Nat.reduceLT, Nat.zero_lt_succ]
  simp (disch := omega) only [I_lt, I_eq]
  refine ⟨fun _ => ?_, fun _ => ⟨fun _ => ?_, fun _ => ?_⟩⟩ <;> split <;> omega
theorem v_noNode (hM : ModAt ws S bw bs) (hd : 1 ≤ d) (hw : WF S) {v : Int} (h1 : -2147483648 ≤ v) (h2 : v < 2147483648) : xM l tX10_noNode d 0 0 [.ref 121, .int (I v)] n ws (fun r n' ws' => r = some (.int (I (if ¬ (0 ≤ v ∧ v < S.nn) then 1 else 0))) ∧ n' = n ∧ ws' = ws) := by
  obtain ⟨m1, m2, m3, m4, m5, m6, m7, m8, m9⟩ := hM
  have hb : S.nn ≤ 10 := hw.1
  refine xM.of (by decide) (Nat.le_of_ble_eq_true rfl) ?_
  simp only [lv_args, cat_int, cat_ref, cat_long, reduceIte, Nat.reduceEqDiff, Nat.reduceAdd, Nat.one_ne_zero, Nat.reduceLeDiff]
  refine xN_ok (t := tX10_noNode) rfl (T := AX10_noNode) aX10_noNode 1 _ _ _ _ _ _ _ ?_
  simp only [AX10_noNode, oX10_noNode_0, oX10_noNode_11, oX10_noNode_18, oX10_noNode_19, rX10_noNode, x_iconst, x_bipush, x_sipush, x_lconst, x_iload, x_lload, x_aload, x_istore, x_lstore, x_astore, x_iinc, x_iadd, x_isub, x_imul, x_iand, x_ior, x_ixor, x_ishl, x_ishr, x_ineg, x_ladd, x_lsub, x_lmul, x_ldiv, x_lrem, x_lcmp, x_i2l, x_l2i, x_dup, x_dup_x1, x_dup2, x_if_eq, x_if_ne, x_if_lt, x_if_ge, x_if_gt, x_if_le, x_ic_eq, x_ic_ne, x_ic_lt, x_ic_ge, x_ic_gt, x_ic_le, x_goto, x_ireturn, x_lreturn, x_return, x_getfield, x_putfield, x_iaload, x_baload, x_laload, x_aaload, x_iastore, x_bastore, x_lastore, x_aastore, x_arraylength, x_newarray, x_anewarray, x_new, x_iload_0, x_iload_1, x_iload_2, x_iload_3, x_lload_0, x_lload_1, x_lload_2, x_lload_3, x_aload_0, x_aload_1, x_aload_2, x_aload_3, x_istore_0, x_istore_1, x_istore_2, x_istore_3, x_lstore_0, x_lstore_1, x_lstore_2, x_lstore_3, x_astore_0, x_astore_1, x_astore_2, x_astore_3, q_bipush_m3, q_bipush_m2, q_bipush_6, q_bipush_7, q_bipush_9, q_bipush_10, q_bipush_24, q_bipush_30, q_bipush_48, q_bipush_100, q_sipush_300, q_sipush_1000, q_sipush_24001, q_l0, q_l1, xtc_0_0, xtc_0_1, xtc_0_2, xtc_0_3, xtc_0_4, xtc_0_5, xtc_1_0, xtc_1_1, xtc_1_2, xtc_2_0, xtc_2_1, xtc_3_0, xtc_4_0, xtc_4_1, xtc_4_2, xtc_4_3, xtc_4_4, xtc_4_5, xtc_4_6, xtc_4_7, xtc_4_8, xtc_4_9, xtc_4_10, xtc_4_11, xtc_4_12, xtc_5_0, xtc_5_1, xtc_5_2, xtc_5_3, xtc_5_4, xtc_5_5, xtc_5_6, xtc_6_0, xtc_6_1, xtc_6_2, xtc_7_0, xtc_7_1, xtc_8_0, xtc_8_1, xtc_8_2, xtc_8_3, xtc_9_0, xtc_9_1, xtc_9_2, xtc_9_3, xtc_9_4, xtc_9_5, xtc_9_6, xtc_9_7, xtc_9_8, xtc_9_9, xtc_10_0, xtc_10_1, xtc_10_2, xtc_10_3, xtc_10_4, xtc_10_5, xtc_10_6, xtc_10_7, xtc_10_8, xtc_10_9, xtc_10_10, xtc_10_11, xtc_10_12, xtc_10_13, xtc_10_14, xtc_10_15, xtc_10_16, xtc_10_17, xtc_10_18, xtc_10_19, xtc_10_20, xtc_10_21, xtc_10_22, xtc_10_23, xtc_10_24, xtc_10_25, eq_self, reduceIte, Nat.reduceEqDiff, Nat.reduceAdd, Nat.reduceSub, Nat.zero_ne_one, Nat.one_ne_zero, Nat.succ_ne_zero, Nat.reduceLeDiff, reduceCtorEq, and_true, true_and, and_false, false_and, true_implies, false_implies, implies_true, not_true_eq_false, not_false_eq_true, xN_0, xN_s, xlook_c, xlook_n, xb_nil, xb_cons, xlen, xl_cons, xst_def, xst2_def, xdl_nil, xdl_int, xdl_ref, xdl_long, xrv_some, xfit_int, xfit_long, xfit_ref, cat_int, cat_ref, cat_long, xret_int, xret_bool, or_true, true_or, Option.some.injEq, Value.int.injEq, Value.ref.injEq, Value.long.injEq, List.getElem?_cons_zero, List.getElem?_cons_succ, List.set_cons_zero, List.set_cons_succ, List.length_cons, List.length_nil, xup_xup, Classical.not_not, Nat.reduceLT, Nat.zero_lt_succ, m1, I_sub]
  refine cX10_noNode_8 (dc := 0) (cc := 0) (cs := 0) (by omega) (by omega) (by omega) (Nat.le_of_ble_eq_true rfl) (w_in l 0 _ _ (by omega) (by omega) (by omega) (by omega) (by omega) (by omega)) (pureQ ?_)
  simp only [Option.toList_some, Option.toList_none, List.cons_append, List.nil_append, Nat.sub_zero, Nat.reduceSub, Nat.sub_self]
  refine xN_ok (t := tX10_noNode) rfl (T := AX10_noNode) aX10_noNode 4 _ _ _ _ _ _ _ ?_
  simp only [AX10_noNode, oX10_noNode_0, oX10_noNode_11, oX10_noNode_18, oX10_noNode_19, rX10_noNode, x_iconst, x_bipush, x_sipush, x_lconst, x_iload, x_lload, x_aload, x_istore, x_lstore, x_astore, x_iinc, x_iadd, x_isub, x_imul, x_iand, x_ior, x_ixor, x_ishl, x_ishr, x_ineg, x_ladd, x_lsub, x_lmul, x_ldiv, x_lrem, x_lcmp, x_i2l, x_l2i, x_dup, x_dup_x1, x_dup2, x_if_eq, x_if_ne, x_if_lt, x_if_ge, x_if_gt, x_if_le, x_ic_eq, x_ic_ne, x_ic_lt, x_ic_ge, x_ic_gt, x_ic_le, x_goto, x_ireturn, x_lreturn, x_return, x_getfield, x_putfield, x_iaload, x_baload, x_laload, x_aaload, x_iastore, x_bastore, x_lastore, x_aastore, x_arraylength, x_newarray, x_anewarray, x_new, x_iload_0, x_iload_1, x_iload_2, x_iload_3, x_lload_0, x_lload_1, x_lload_2, x_lload_3, x_aload_0, x_aload_1, x_aload_2, x_aload_3, x_istore_0, x_istore_1, x_istore_2, x_istore_3, x_lstore_0, x_lstore_1, x_lstore_2, x_lstore_3, x_astore_0, x_astore_1, x_astore_2, x_astore_3, q_bipush_m3, q_bipush_m2, q_bipush_6, q_bipush_7, q_bipush_9, q_bipush_10, q_bipush_24, q_bipush_30, q_bipush_48, q_bipush_100, q_sipush_300, q_sipush_1000, q_sipush_24001, q_l0, q_l1, xtc_0_0, xtc_0_1, xtc_0_2, xtc_0_3, xtc_0_4, xtc_0_5, xtc_1_0, xtc_1_1, xtc_1_2, xtc_2_0, xtc_2_1, xtc_3_0, xtc_4_0, xtc_4_1, xtc_4_2, xtc_4_3, xtc_4_4, xtc_4_5, xtc_4_6, xtc_4_7, xtc_4_8, xtc_4_9, xtc_4_10, xtc_4_11, xtc_4_12, xtc_5_0, xtc_5_1, xtc_5_2, xtc_5_3, xtc_5_4, xtc_5_5, xtc_5_6, xtc_6_0, xtc_6_1, xtc_6_2, xtc_7_0, xtc_7_1, xtc_8_0, xtc_8_1, xtc_8_2, xtc_8_3, xtc_9_0, xtc_9_1, xtc_9_2, xtc_9_3, xtc_9_4, xtc_9_5, xtc_9_6, xtc_9_7, xtc_9_8, xtc_9_9, xtc_10_0, xtc_10_1, xtc_10_2, xtc_10_3, xtc_10_4, xtc_10_5, xtc_10_6, xtc_10_7, xtc_10_8, xtc_10_9, xtc_10_10, xtc_10_11, xtc_10_12, xtc_10_13, xtc_10_14, xtc_10_15, xtc_10_16, xtc_10_17, xtc_10_18, xtc_10_19, xtc_10_20, xtc_10_21, xtc_10_22, xtc_10_23, xtc_10_24, xtc_10_25, eq_self, reduceIte, Nat.reduceEqDiff, Nat.reduceAdd, Nat.reduceSub, Nat.zero_ne_one, Nat.one_ne_zero, Nat.succ_ne_zero, Nat.reduceLeDiff, reduceCtorEq, and_true, true_and, and_false, false_and, true_implies, false_implies, implies_true, not_true_eq_false, not_false_eq_true, xN_0, xN_s, xlook_c, xlook_n, xb_nil, xb_cons, xlen, xl_cons, xst_def, xst2_def, xdl_nil, xdl_int, xdl_ref, xdl_long, xrv_some, xfit_int, xfit_long, xfit_ref, cat_int, cat_ref, cat_long, xret_int, xret_bool, or_true, true_or, Option.some.injEq, Value.int.injEq, Value.ref.injEq, Value.long.injEq, List.getElem?_cons_zero, List.getElem?_cons_succ, List.set_cons_zero, List.set_cons_succ, List.length_cons, List.length_nil, xup_xup, Classical.not_not, Nat.reduceLT, Nat.zero_lt_succ, I_b0, Int.le_sub_one_iff, I_b01]
  simp (disch := omega) only [I_lt, I_le, I_eq, I_in, I_add, I_sub, I_mul, I_b0, I_b01, b_eq0, b_eq1, Classical.not_not, ra_get, ra_set, ra_len, Int.toNat_natCast, eq_self, true_and, and_true, ne_eq, not_false_eq_true, not_true_eq_false]
  refine ⟨fun h => ?_, fun h => ?_⟩ <;> simp [h]
theorem v_noArc (hM : ModAt ws S bw bs) (hd : 1 ≤ d) (hw : WF S) {v : Int} (h1 : -2147483648 ≤ v) (h2 : v < 2147483648) : xM l tX10_noArc d 0 0 [.ref 121, .int (I v)] n ws (fun r n' ws' => r = some (.int (I (if ¬ (0 ≤ v ∧ v < S.na) then 1 else 0))) ∧ n' = n ∧ ws' = ws) := by
  obtain ⟨m1, m2, m3, m4, m5, m6, m7, m8, m9⟩ := hM
  have hb : S.na ≤ 24 := hw.2.1
  refine xM.of (by decide) (Nat.le_of_ble_eq_true rfl) ?_
  simp only [lv_args, cat_int, cat_ref, cat_long, reduceIte, Nat.reduceEqDiff, Nat.reduceAdd, Nat.one_ne_zero, Nat.reduceLeDiff]
  refine xN_ok (t := tX10_noArc) rfl (T := AX10_noArc) aX10_noArc 1 _ _ _ _ _ _ _ ?_
  simp only [AX10_noArc, oX10_noArc_0, oX10_noArc_11, oX10_noArc_18, oX10_noArc_19, rX10_noArc, x_iconst, x_bipush, x_sipush, x_lconst, x_iload, x_lload, x_aload, x_istore, x_lstore, x_astore, x_iinc, x_iadd, x_isub, x_imul, x_iand, x_ior, x_ixor, x_ishl, x_ishr, x_ineg, x_ladd, x_lsub, x_lmul, x_ldiv, x_lrem, x_lcmp, x_i2l, x_l2i, x_dup, x_dup_x1, x_dup2, x_if_eq, x_if_ne, x_if_lt, x_if_ge, x_if_gt, x_if_le, x_ic_eq, x_ic_ne, x_ic_lt, x_ic_ge, x_ic_gt, x_ic_le, x_goto, x_ireturn, x_lreturn, x_return, x_getfield, x_putfield, x_iaload, x_baload, x_laload, x_aaload, x_iastore, x_bastore, x_lastore, x_aastore, x_arraylength, x_newarray, x_anewarray, x_new, x_iload_0, x_iload_1, x_iload_2, x_iload_3, x_lload_0, x_lload_1, x_lload_2, x_lload_3, x_aload_0, x_aload_1, x_aload_2, x_aload_3, x_istore_0, x_istore_1, x_istore_2, x_istore_3, x_lstore_0, x_lstore_1, x_lstore_2, x_lstore_3, x_astore_0, x_astore_1, x_astore_2, x_astore_3, q_bipush_m3, q_bipush_m2, q_bipush_6, q_bipush_7, q_bipush_9, q_bipush_10, q_bipush_24, q_bipush_30, q_bipush_48, q_bipush_100, q_sipush_300, q_sipush_1000, q_sipush_24001, q_l0, q_l1, xtc_0_0, xtc_0_1, xtc_0_2, xtc_0_3, xtc_0_4, xtc_0_5, xtc_1_0, xtc_1_1, xtc_1_2, xtc_2_0, xtc_2_1, xtc_3_0, xtc_4_0, xtc_4_1, xtc_4_2, xtc_4_3, xtc_4_4, xtc_4_5, xtc_4_6, xtc_4_7, xtc_4_8, xtc_4_9, xtc_4_10, xtc_4_11, xtc_4_12, xtc_5_0, xtc_5_1, xtc_5_2, xtc_5_3, xtc_5_4, xtc_5_5, xtc_5_6, xtc_6_0, xtc_6_1, xtc_6_2, xtc_7_0, xtc_7_1, xtc_8_0, xtc_8_1, xtc_8_2, xtc_8_3, xtc_9_0, xtc_9_1, xtc_9_2, xtc_9_3, xtc_9_4, xtc_9_5, xtc_9_6, xtc_9_7, xtc_9_8, xtc_9_9, xtc_10_0, xtc_10_1, xtc_10_2, xtc_10_3, xtc_10_4, xtc_10_5, xtc_10_6, xtc_10_7, xtc_10_8, xtc_10_9, xtc_10_10, xtc_10_11, xtc_10_12, xtc_10_13, xtc_10_14, xtc_10_15, xtc_10_16, xtc_10_17, xtc_10_18, xtc_10_19, xtc_10_20, xtc_10_21, xtc_10_22, xtc_10_23, xtc_10_24, xtc_10_25, eq_self, reduceIte, Nat.reduceEqDiff, Nat.reduceAdd, Nat.reduceSub, Nat.zero_ne_one, Nat.one_ne_zero, Nat.succ_ne_zero, Nat.reduceLeDiff, reduceCtorEq, and_true, true_and, and_false, false_and, true_implies, false_implies, implies_true, not_true_eq_false, not_false_eq_true, xN_0, xN_s, xlook_c, xlook_n, xb_nil, xb_cons, xlen, xl_cons, xst_def, xst2_def, xdl_nil, xdl_int, xdl_ref, xdl_long, xrv_some, xfit_int, xfit_long, xfit_ref, cat_int, cat_ref, cat_long, xret_int, xret_bool, or_true, true_or, Option.some.injEq, Value.int.injEq, Value.ref.injEq, Value.long.injEq, List.getElem?_cons_zero, List.getElem?_cons_succ, List.set_cons_zero, List.set_cons_succ, List.length_cons, List.length_nil, xup_xup, Classical.not_not, Nat.reduceLT, Nat.zero_lt_succ, m1, I_sub]
  refine cX10_noArc_8 (dc := 0) (cc := 0) (cs := 0) (by omega) (by omega) (by omega) (Nat.le_of_ble_eq_true rfl) (w_in l 0 _ _ (by omega) (by omega) (by omega) (by omega) (by omega) (by omega)) (pureQ ?_)
  simp only [Option.toList_some, Option.toList_none, List.cons_append, List.nil_append, Nat.sub_zero, Nat.reduceSub, Nat.sub_self]
  refine xN_ok (t := tX10_noArc) rfl (T := AX10_noArc) aX10_noArc 4 _ _ _ _ _ _ _ ?_
  simp only [AX10_noArc, oX10_noArc_0, oX10_noArc_11, oX10_noArc_18, oX10_noArc_19, rX10_noArc, x_iconst, x_bipush, x_sipush, x_lconst, x_iload, x_lload, x_aload, x_istore, x_lstore, x_astore, x_iinc, x_iadd, x_isub, x_imul, x_iand, x_ior, x_ixor, x_ishl, x_ishr, x_ineg, x_ladd, x_lsub, x_lmul, x_ldiv, x_lrem, x_lcmp, x_i2l, x_l2i, x_dup, x_dup_x1, x_dup2, x_if_eq, x_if_ne, x_if_lt, x_if_ge, x_if_gt, x_if_le, x_ic_eq, x_ic_ne, x_ic_lt, x_ic_ge, x_ic_gt, x_ic_le, x_goto, x_ireturn, x_lreturn, x_return, x_getfield, x_putfield, x_iaload, x_baload, x_laload, x_aaload, x_iastore, x_bastore, x_lastore, x_aastore, x_arraylength, x_newarray, x_anewarray, x_new, x_iload_0, x_iload_1, x_iload_2, x_iload_3, x_lload_0, x_lload_1, x_lload_2, x_lload_3, x_aload_0, x_aload_1, x_aload_2, x_aload_3, x_istore_0, x_istore_1, x_istore_2, x_istore_3, x_lstore_0, x_lstore_1, x_lstore_2, x_lstore_3, x_astore_0, x_astore_1, x_astore_2, x_astore_3, q_bipush_m3, q_bipush_m2, q_bipush_6, q_bipush_7, q_bipush_9, q_bipush_10, q_bipush_24, q_bipush_30, q_bipush_48, q_bipush_100, q_sipush_300, q_sipush_1000, q_sipush_24001, q_l0, q_l1, xtc_0_0, xtc_0_1, xtc_0_2, xtc_0_3, xtc_0_4, xtc_0_5, xtc_1_0, xtc_1_1, xtc_1_2, xtc_2_0, xtc_2_1, xtc_3_0, xtc_4_0, xtc_4_1, xtc_4_2, xtc_4_3, xtc_4_4, xtc_4_5, xtc_4_6, xtc_4_7, xtc_4_8, xtc_4_9, xtc_4_10, xtc_4_11, xtc_4_12, xtc_5_0, xtc_5_1, xtc_5_2, xtc_5_3, xtc_5_4, xtc_5_5, xtc_5_6, xtc_6_0, xtc_6_1, xtc_6_2, xtc_7_0, xtc_7_1, xtc_8_0, xtc_8_1, xtc_8_2, xtc_8_3, xtc_9_0, xtc_9_1, xtc_9_2, xtc_9_3, xtc_9_4, xtc_9_5, xtc_9_6, xtc_9_7, xtc_9_8, xtc_9_9, xtc_10_0, xtc_10_1, xtc_10_2, xtc_10_3, xtc_10_4, xtc_10_5, xtc_10_6, xtc_10_7, xtc_10_8, xtc_10_9, xtc_10_10, xtc_10_11, xtc_10_12, xtc_10_13, xtc_10_14, xtc_10_15, xtc_10_16, xtc_10_17, xtc_10_18, xtc_10_19, xtc_10_20, xtc_10_21, xtc_10_22, xtc_10_23, xtc_10_24, xtc_10_25, eq_self, reduceIte, Nat.reduceEqDiff, Nat.reduceAdd, Nat.reduceSub, Nat.zero_ne_one, Nat.one_ne_zero, Nat.succ_ne_zero, Nat.reduceLeDiff, reduceCtorEq, and_true, true_and, and_false, false_and, true_implies, false_implies, implies_true, not_true_eq_false, not_false_eq_true, xN_0, xN_s, xlook_c, xlook_n, xb_nil, xb_cons, xlen, xl_cons, xst_def, xst2_def, xdl_nil, xdl_int, xdl_ref, xdl_long, xrv_some, xfit_int, xfit_long, xfit_ref, cat_int, cat_ref, cat_long, xret_int, xret_bool, or_true, true_or, Option.some.injEq, Value.int.injEq, Value.ref.injEq, Value.long.injEq, List.getElem?_cons_zero, List.getElem?_cons_succ, List.set_cons_zero, List.set_cons_succ, List.length_cons, List.length_nil, xup_xup, Classical.not_not, Nat.reduceLT, Nat.zero_lt_succ, I_b0, Int.le_sub_one_iff, I_b01]
  simp (disch := omega) only [I_lt, I_le, I_eq, I_in, I_add, I_sub, I_mul, I_b0, I_b01, b_eq0, b_eq1, Classical.not_not, ra_get, ra_set, ra_len, Int.toNat_natCast, eq_self, true_and, and_true, ne_eq, not_false_eq_true, not_true_eq_false]
  refine ⟨fun h => ?_, fun h => ?_⟩ <;> simp [h]
theorem v_noGood (hM : ModAt ws S bw bs) (hd : 1 ≤ d) (hw : WF S) {v : Int} (h1 : -2147483648 ≤ v) (h2 : v < 2147483648) : xM l tX10_noGood d 0 0 [.ref 121, .int (I v)] n ws (fun r n' ws' => r = some (.int (I (if ¬ (0 ≤ v ∧ v < S.ng) then 1 else 0))) ∧ n' = n ∧ ws' = ws) := by
  obtain ⟨m1, m2, m3, m4, m5, m6, m7, m8, m9⟩ := hM
  have hb : S.ng ≤ 6 := hw.2.2.1
  refine xM.of (by decide) (Nat.le_of_ble_eq_true rfl) ?_
  simp only [lv_args, cat_int, cat_ref, cat_long, reduceIte, Nat.reduceEqDiff, Nat.reduceAdd, Nat.one_ne_zero, Nat.reduceLeDiff]
  refine xN_ok (t := tX10_noGood) rfl (T := AX10_noGood) aX10_noGood 1 _ _ _ _ _ _ _ ?_
  simp only [AX10_noGood, oX10_noGood_0, oX10_noGood_11, oX10_noGood_18, oX10_noGood_19, rX10_noGood, x_iconst, x_bipush, x_sipush, x_lconst, x_iload, x_lload, x_aload, x_istore, x_lstore, x_astore, x_iinc, x_iadd, x_isub, x_imul, x_iand, x_ior, x_ixor, x_ishl, x_ishr, x_ineg, x_ladd, x_lsub, x_lmul, x_ldiv, x_lrem, x_lcmp, x_i2l, x_l2i, x_dup, x_dup_x1, x_dup2, x_if_eq, x_if_ne, x_if_lt, x_if_ge, x_if_gt, x_if_le, x_ic_eq, x_ic_ne, x_ic_lt, x_ic_ge, x_ic_gt, x_ic_le, x_goto, x_ireturn, x_lreturn, x_return, x_getfield, x_putfield, x_iaload, x_baload, x_laload, x_aaload, x_iastore, x_bastore, x_lastore, x_aastore, x_arraylength, x_newarray, x_anewarray, x_new, x_iload_0, x_iload_1, x_iload_2, x_iload_3, x_lload_0, x_lload_1, x_lload_2, x_lload_3, x_aload_0, x_aload_1, x_aload_2, x_aload_3, x_istore_0, x_istore_1, x_istore_2, x_istore_3, x_lstore_0, x_lstore_1, x_lstore_2, x_lstore_3, x_astore_0, x_astore_1, x_astore_2, x_astore_3, q_bipush_m3, q_bipush_m2, q_bipush_6, q_bipush_7, q_bipush_9, q_bipush_10, q_bipush_24, q_bipush_30, q_bipush_48, q_bipush_100, q_sipush_300, q_sipush_1000, q_sipush_24001, q_l0, q_l1, xtc_0_0, xtc_0_1, xtc_0_2, xtc_0_3, xtc_0_4, xtc_0_5, xtc_1_0, xtc_1_1, xtc_1_2, xtc_2_0, xtc_2_1, xtc_3_0, xtc_4_0, xtc_4_1, xtc_4_2, xtc_4_3, xtc_4_4, xtc_4_5, xtc_4_6, xtc_4_7, xtc_4_8, xtc_4_9, xtc_4_10, xtc_4_11, xtc_4_12, xtc_5_0, xtc_5_1, xtc_5_2, xtc_5_3, xtc_5_4, xtc_5_5, xtc_5_6, xtc_6_0, xtc_6_1, xtc_6_2, xtc_7_0, xtc_7_1, xtc_8_0, xtc_8_1, xtc_8_2, xtc_8_3, xtc_9_0, xtc_9_1, xtc_9_2, xtc_9_3, xtc_9_4, xtc_9_5, xtc_9_6, xtc_9_7, xtc_9_8, xtc_9_9, xtc_10_0, xtc_10_1, xtc_10_2, xtc_10_3, xtc_10_4, xtc_10_5, xtc_10_6, xtc_10_7, xtc_10_8, xtc_10_9, xtc_10_10, xtc_10_11, xtc_10_12, xtc_10_13, xtc_10_14, xtc_10_15, xtc_10_16, xtc_10_17, xtc_10_18, xtc_10_19, xtc_10_20, xtc_10_21, xtc_10_22, xtc_10_23, xtc_10_24, xtc_10_25, eq_self, reduceIte, Nat.reduceEqDiff, Nat.reduceAdd, Nat.reduceSub, Nat.zero_ne_one, Nat.one_ne_zero, Nat.succ_ne_zero, Nat.reduceLeDiff, reduceCtorEq, and_true, true_and, and_false, false_and, true_implies, false_implies, implies_true, not_true_eq_false, not_false_eq_true, xN_0, xN_s, xlook_c, xlook_n, xb_nil, xb_cons, xlen, xl_cons, xst_def, xst2_def, xdl_nil, xdl_int, xdl_ref, xdl_long, xrv_some, xfit_int, xfit_long, xfit_ref, cat_int, cat_ref, cat_long, xret_int, xret_bool, or_true, true_or, Option.some.injEq, Value.int.injEq, Value.ref.injEq, Value.long.injEq, List.getElem?_cons_zero, List.getElem?_cons_succ, List.set_cons_zero, List.set_cons_succ, List.length_cons, List.length_nil, xup_xup, Classical.not_not, Nat.reduceLT, Nat.zero_lt_succ, m1, I_sub]
  refine cX10_noGood_8 (dc := 0) (cc := 0) (cs := 0) (by omega) (by omega) (by omega) (Nat.le_of_ble_eq_true rfl) (w_in l 0 _ _ (by omega) (by omega) (by omega) (by omega) (by omega) (by omega)) (pureQ ?_)
  simp only [Option.toList_some, Option.toList_none, List.cons_append, List.nil_append, Nat.sub_zero, Nat.reduceSub, Nat.sub_self]
  refine xN_ok (t := tX10_noGood) rfl (T := AX10_noGood) aX10_noGood 4 _ _ _ _ _ _ _ ?_
  simp only [AX10_noGood, oX10_noGood_0, oX10_noGood_11, oX10_noGood_18, oX10_noGood_19, rX10_noGood, x_iconst, x_bipush, x_sipush, x_lconst, x_iload, x_lload, x_aload, x_istore, x_lstore, x_astore, x_iinc, x_iadd, x_isub, x_imul, x_iand, x_ior, x_ixor, x_ishl, x_ishr, x_ineg, x_ladd, x_lsub, x_lmul, x_ldiv, x_lrem, x_lcmp, x_i2l, x_l2i, x_dup, x_dup_x1, x_dup2, x_if_eq, x_if_ne, x_if_lt, x_if_ge, x_if_gt, x_if_le, x_ic_eq, x_ic_ne, x_ic_lt, x_ic_ge, x_ic_gt, x_ic_le, x_goto, x_ireturn, x_lreturn, x_return, x_getfield, x_putfield, x_iaload, x_baload, x_laload, x_aaload, x_iastore, x_bastore, x_lastore, x_aastore, x_arraylength, x_newarray, x_anewarray, x_new, x_iload_0, x_iload_1, x_iload_2, x_iload_3, x_lload_0, x_lload_1, x_lload_2, x_lload_3, x_aload_0, x_aload_1, x_aload_2, x_aload_3, x_istore_0, x_istore_1, x_istore_2, x_istore_3, x_lstore_0, x_lstore_1, x_lstore_2, x_lstore_3, x_astore_0, x_astore_1, x_astore_2, x_astore_3, q_bipush_m3, q_bipush_m2, q_bipush_6, q_bipush_7, q_bipush_9, q_bipush_10, q_bipush_24, q_bipush_30, q_bipush_48, q_bipush_100, q_sipush_300, q_sipush_1000, q_sipush_24001, q_l0, q_l1, xtc_0_0, xtc_0_1, xtc_0_2, xtc_0_3, xtc_0_4, xtc_0_5, xtc_1_0, xtc_1_1, xtc_1_2, xtc_2_0, xtc_2_1, xtc_3_0, xtc_4_0, xtc_4_1, xtc_4_2, xtc_4_3, xtc_4_4, xtc_4_5, xtc_4_6, xtc_4_7, xtc_4_8, xtc_4_9, xtc_4_10, xtc_4_11, xtc_4_12, xtc_5_0, xtc_5_1, xtc_5_2, xtc_5_3, xtc_5_4, xtc_5_5, xtc_5_6, xtc_6_0, xtc_6_1, xtc_6_2, xtc_7_0, xtc_7_1, xtc_8_0, xtc_8_1, xtc_8_2, xtc_8_3, xtc_9_0, xtc_9_1, xtc_9_2, xtc_9_3, xtc_9_4, xtc_9_5, xtc_9_6, xtc_9_7, xtc_9_8, xtc_9_9, xtc_10_0, xtc_10_1, xtc_10_2, xtc_10_3, xtc_10_4, xtc_10_5, xtc_10_6, xtc_10_7, xtc_10_8, xtc_10_9, xtc_10_10, xtc_10_11, xtc_10_12, xtc_10_13, xtc_10_14, xtc_10_15, xtc_10_16, xtc_10_17, xtc_10_18, xtc_10_19, xtc_10_20, xtc_10_21, xtc_10_22, xtc_10_23, xtc_10_24, xtc_10_25, eq_self, reduceIte, Nat.reduceEqDiff, Nat.reduceAdd, Nat.reduceSub, Nat.zero_ne_one, Nat.one_ne_zero, Nat.succ_ne_zero, Nat.reduceLeDiff, reduceCtorEq, and_true, true_and, and_false, false_and, true_implies, false_implies, implies_true, not_true_eq_false, not_false_eq_true, xN_0, xN_s, xlook_c, xlook_n, xb_nil, xb_cons, xlen, xl_cons, xst_def, xst2_def, xdl_nil, xdl_int, xdl_ref, xdl_long, xrv_some, xfit_int, xfit_long, xfit_ref, cat_int, cat_ref, cat_long, xret_int, xret_bool, or_true, true_or, Option.some.injEq, Value.int.injEq, Value.ref.injEq, Value.long.injEq, List.getElem?_cons_zero, List.getElem?_cons_succ, List.set_cons_zero, List.set_cons_succ, List.length_cons, List.length_nil, xup_xup, Classical.not_not, Nat.reduceLT, Nat.zero_lt_succ, I_b0, Int.le_sub_one_iff, I_b01]
  simp (disch := omega) only [I_lt, I_le, I_eq, I_in, I_add, I_sub, I_mul, I_b0, I_b01, b_eq0, b_eq1, Classical.not_not, ra_get, ra_set, ra_len, Int.toNat_natCast, eq_self, true_and, and_true, ne_eq, not_false_eq_true, not_true_eq_false]
  refine ⟨fun h => ?_, fun h => ?_⟩ <;> simp [h]
theorem v_node (hM : ModAt ws S bw bs) (hw : WF S) : xM l tX10_node d 0 0 [.ref 121] n ws (fun r n' ws' => n' = n ∧ ((S.nn = 10 ∧ r = some (.int (I (-3))) ∧ ws' = ws) ∨ (S.nn < 10 ∧ r = some (.int (I S.nn)) ∧ ModAt ws' (putNode S) bw bs ∧ ∀ q, q ≤ 120 ∨ 130 ≤ q → ws' q = ws q))) := by
  obtain ⟨m1, m2, m3, m4, m5, m6, m7, m8, m9⟩ := hM
  have hb : S.nn ≤ 10 := hw.1
  refine xM.of (by decide) (Nat.le_of_ble_eq_true rfl) ?_
  simp only [lv_args, cat_int, cat_ref, cat_long, reduceIte, Nat.reduceEqDiff, Nat.reduceAdd, Nat.one_ne_zero, Nat.reduceLeDiff]
  refine xN_ok (t := tX10_node) rfl (T := AX10_node) aX10_node 2 _ _ _ _ _ _ _ ?_
  simp only [AX10_node, oX10_node_0, oX10_node_17, rX10_node, x_iconst, x_bipush, x_sipush, x_lconst, x_iload, x_lload, x_aload, x_istore, x_lstore, x_astore, x_iinc, x_iadd, x_isub, x_imul, x_iand, x_ior, x_ixor, x_ishl, x_ishr, x_ineg, x_ladd, x_lsub, x_lmul, x_ldiv, x_lrem, x_lcmp, x_i2l, x_l2i, x_dup, x_dup_x1, x_dup2, x_if_eq, x_if_ne, x_if_lt, x_if_ge, x_if_gt, x_if_le, x_ic_eq, x_ic_ne, x_ic_lt, x_ic_ge, x_ic_gt, x_ic_le, x_goto, x_ireturn, x_lreturn, x_return, x_getfield, x_putfield, x_iaload, x_baload, x_laload, x_aaload, x_iastore, x_bastore, x_lastore, x_aastore, x_arraylength, x_newarray, x_anewarray, x_new, x_iload_0, x_iload_1, x_iload_2, x_iload_3, x_lload_0, x_lload_1, x_lload_2, x_lload_3, x_aload_0, x_aload_1, x_aload_2, x_aload_3, x_istore_0, x_istore_1, x_istore_2, x_istore_3, x_lstore_0, x_lstore_1, x_lstore_2, x_lstore_3, x_astore_0, x_astore_1, x_astore_2, x_astore_3, q_bipush_m3, q_bipush_m2, q_bipush_6, q_bipush_7, q_bipush_9, q_bipush_10, q_bipush_24, q_bipush_30, q_bipush_48, q_bipush_100, q_sipush_300, q_sipush_1000, q_sipush_24001, q_l0, q_l1, xtc_0_0, xtc_0_1, xtc_0_2, xtc_0_3, xtc_0_4, xtc_0_5, xtc_1_0, xtc_1_1, xtc_1_2, xtc_2_0, xtc_2_1, xtc_3_0, xtc_4_0, xtc_4_1, xtc_4_2, xtc_4_3, xtc_4_4, xtc_4_5, xtc_4_6, xtc_4_7, xtc_4_8, xtc_4_9, xtc_4_10, xtc_4_11, xtc_4_12, xtc_5_0, xtc_5_1, xtc_5_2, xtc_5_3, xtc_5_4, xtc_5_5, xtc_5_6, xtc_6_0, xtc_6_1, xtc_6_2, xtc_7_0, xtc_7_1, xtc_8_0, xtc_8_1, xtc_8_2, xtc_8_3, xtc_9_0, xtc_9_1, xtc_9_2, xtc_9_3, xtc_9_4, xtc_9_5, xtc_9_6, xtc_9_7, xtc_9_8, xtc_9_9, xtc_10_0, xtc_10_1, xtc_10_2, xtc_10_3, xtc_10_4, xtc_10_5, xtc_10_6, xtc_10_7, xtc_10_8, xtc_10_9, xtc_10_10, xtc_10_11, xtc_10_12, xtc_10_13, xtc_10_14, xtc_10_15, xtc_10_16, xtc_10_17, xtc_10_18, xtc_10_19, xtc_10_20, xtc_10_21, xtc_10_22, xtc_10_23, xtc_10_24, xtc_10_25, eq_self, reduceIte, Nat.reduceEqDiff, Nat.reduceAdd, Nat.reduceSub, Nat.zero_ne_one, Nat.one_ne_zero, Nat.succ_ne_zero, Nat.reduceLeDiff, reduceCtorEq, and_true, true_and, and_false, false_and, true_implies, false_implies, implies_true, not_true_eq_false, not_false_eq_true, xN_0, xN_s, xlook_c, xlook_n, xb_nil, xb_cons, xlen, xl_cons, xst_def, xst2_def, xdl_nil, xdl_int, xdl_ref, xdl_long, xrv_some, xfit_int, xfit_long, xfit_ref, cat_int, cat_ref, cat_long, xret_int, xret_bool, or_true, true_or, Option.some.injEq, Value.int.injEq, Value.ref.injEq, Value.long.injEq, List.getElem?_cons_zero, List.getElem?_cons_succ, List.set_cons_zero, List.set_cons_succ, List.length_cons, List.length_nil, xup_xup, Classical.not_not, Nat.reduceLT, Nat.zero_lt_succ, m1, xup_id m1, xup_self, xup_ne, ne_eq, I_add, I_sub]
  simp (disch := omega) only [I_eq]
  refine ⟨fun h => Or.inr ⟨by omega, ?_, ?_, ?_⟩, fun h => Or.inl (by omega)⟩
  · congr 1; omega
  · simp only [ModAt, putNode, xup_self, xup_ne, ne_eq, Nat.reduceEqDiff, not_false_eq_true, m2, m3, m4, m5, m6, m7, m8, m9]
    simp
    rfl
  · intro q hq
    simp only [xup]
    repeat rw [if_neg (by omega)]
theorem v_capacity (hM : ModAt ws S bw bs) (hw : WF S) (hd : 2 ≤ d) {a b : Int} (h1 : -2147483648 ≤ a) (h2 : a < 2147483648) (h3 : -2147483648 ≤ b) (h4 : b < 2147483648) : xM l tX10_capacity d 0 0 [.ref 121, .int (I a), .int (I b)] n ws (fun r n' ws' => n' = n ∧ ((¬ ((0 ≤ a ∧ a < S.na) ∧ (0 ≤ b ∧ b ≤ 1000)) ∧ r = some (.int (I (-2))) ∧ ws' = ws) ∨ (((0 ≤ a ∧ a < S.na) ∧ (0 ≤ b ∧ b ≤ 1000)) ∧ r = some (.int (I (S.2 2 a.toNat))) ∧ ModAt ws' (putF S 2 a.toNat b) bw bs ∧ ∀ q, q ≤ 120 ∨ 130 ≤ q → ws' q = ws q))) := by
  have hM0 := hM
  obtain ⟨m1, m2, m3, m4, m5, m6, m7, m8, m9⟩ := hM
  have hb2 : S.na ≤ 24 := hw.2.1
  refine xM.of (by decide) (Nat.le_of_ble_eq_true rfl) ?_
  simp only [lv_args, cat_int, cat_ref, cat_long, reduceIte, Nat.reduceEqDiff, Nat.reduceAdd, Nat.one_ne_zero, Nat.reduceLeDiff]
  refine xN_ok (t := tX10_capacity) rfl (T := AX10_capacity) aX10_capacity 1 _ _ _ _ _ _ _ ?_
  simp only [AX10_capacity, oX10_capacity_0, oX10_capacity_10, oX10_capacity_21, oX10_capacity_24, oX10_capacity_27, rX10_capacity, x_iconst, x_bipush, x_sipush, x_lconst, x_iload, x_lload, x_aload, x_istore, x_lstore, x_astore, x_iinc, x_iadd, x_isub, x_imul, x_iand, x_ior, x_ixor, x_ishl, x_ishr, x_ineg, x_ladd, x_lsub, x_lmul, x_ldiv, x_lrem, x_lcmp, x_i2l, x_l2i, x_dup, x_dup_x1, x_dup2, x_if_eq, x_if_ne, x_if_lt, x_if_ge, x_if_gt, x_if_le, x_ic_eq, x_ic_ne, x_ic_lt, x_ic_ge, x_ic_gt, x_ic_le, x_goto, x_ireturn, x_lreturn, x_return, x_getfield, x_putfield, x_iaload, x_baload, x_laload, x_aaload, x_iastore, x_bastore, x_lastore, x_aastore, x_arraylength, x_newarray, x_anewarray, x_new, x_iload_0, x_iload_1, x_iload_2, x_iload_3, x_lload_0, x_lload_1, x_lload_2, x_lload_3, x_aload_0, x_aload_1, x_aload_2, x_aload_3, x_istore_0, x_istore_1, x_istore_2, x_istore_3, x_lstore_0, x_lstore_1, x_lstore_2, x_lstore_3, x_astore_0, x_astore_1, x_astore_2, x_astore_3, q_bipush_m3, q_bipush_m2, q_bipush_6, q_bipush_7, q_bipush_9, q_bipush_10, q_bipush_24, q_bipush_30, q_bipush_48, q_bipush_100, q_sipush_300, q_sipush_1000, q_sipush_24001, q_l0, q_l1, xtc_0_0, xtc_0_1, xtc_0_2, xtc_0_3, xtc_0_4, xtc_0_5, xtc_1_0, xtc_1_1, xtc_1_2, xtc_2_0, xtc_2_1, xtc_3_0, xtc_4_0, xtc_4_1, xtc_4_2, xtc_4_3, xtc_4_4, xtc_4_5, xtc_4_6, xtc_4_7, xtc_4_8, xtc_4_9, xtc_4_10, xtc_4_11, xtc_4_12, xtc_5_0, xtc_5_1, xtc_5_2, xtc_5_3, xtc_5_4, xtc_5_5, xtc_5_6, xtc_6_0, xtc_6_1, xtc_6_2, xtc_7_0, xtc_7_1, xtc_8_0, xtc_8_1, xtc_8_2, xtc_8_3, xtc_9_0, xtc_9_1, xtc_9_2, xtc_9_3, xtc_9_4, xtc_9_5, xtc_9_6, xtc_9_7, xtc_9_8, xtc_9_9, xtc_10_0, xtc_10_1, xtc_10_2, xtc_10_3, xtc_10_4, xtc_10_5, xtc_10_6, xtc_10_7, xtc_10_8, xtc_10_9, xtc_10_10, xtc_10_11, xtc_10_12, xtc_10_13, xtc_10_14, xtc_10_15, xtc_10_16, xtc_10_17, xtc_10_18, xtc_10_19, xtc_10_20, xtc_10_21, xtc_10_22, xtc_10_23, xtc_10_24, xtc_10_25, eq_self, reduceIte, Nat.reduceEqDiff, Nat.reduceAdd, Nat.reduceSub, Nat.zero_ne_one, Nat.one_ne_zero, Nat.succ_ne_zero, Nat.reduceLeDiff, reduceCtorEq, and_true, true_and, and_false, false_and, true_implies, false_implies, implies_true, not_true_eq_false, not_false_eq_true, xN_0, xN_s, xlook_c, xlook_n, xb_nil, xb_cons, xlen, xl_cons, xst_def, xst2_def, xdl_nil, xdl_int, xdl_ref, xdl_long, xrv_some, xfit_int, xfit_long, xfit_ref, cat_int, cat_ref, cat_long, xret_int, xret_bool, or_true, true_or, Option.some.injEq, Value.int.injEq, Value.ref.injEq, Value.long.injEq, List.getElem?_cons_zero, List.getElem?_cons_succ, List.set_cons_zero, List.set_cons_succ, List.length_cons, List.length_nil, xup_xup, Classical.not_not, Nat.reduceLT, Nat.zero_lt_succ, m1, xup_id m1]
  refine cX10_capacity_7 m1 (dc := 1) (cc := 0) (cs := 0) (by omega) (by omega) (by omega) (Nat.le_of_ble_eq_true rfl) (v_noArc hM0 (by omega) hw h1 h2) (pureQ ?_)
  simp only [Option.toList_some, Option.toList_none, List.cons_append, List.nil_append, Nat.sub_zero, Nat.reduceSub, Nat.sub_self]
  refine xN_ok (t := tX10_capacity) rfl (T := AX10_capacity) aX10_capacity 2 _ _ _ _ _ _ _ ?_
  simp only [AX10_capacity, oX10_capacity_0, oX10_capacity_10, oX10_capacity_21, oX10_capacity_24, oX10_capacity_27, rX10_capacity, x_iconst, x_bipush, x_sipush, x_lconst, x_iload, x_lload, x_aload, x_istore, x_lstore, x_astore, x_iinc, x_iadd, x_isub, x_imul, x_iand, x_ior, x_ixor, x_ishl, x_ishr, x_ineg, x_ladd, x_lsub, x_lmul, x_ldiv, x_lrem, x_lcmp, x_i2l, x_l2i, x_dup, x_dup_x1, x_dup2, x_if_eq, x_if_ne, x_if_lt, x_if_ge, x_if_gt, x_if_le, x_ic_eq, x_ic_ne, x_ic_lt, x_ic_ge, x_ic_gt, x_ic_le, x_goto, x_ireturn, x_lreturn, x_return, x_getfield, x_putfield, x_iaload, x_baload, x_laload, x_aaload, x_iastore, x_bastore, x_lastore, x_aastore, x_arraylength, x_newarray, x_anewarray, x_new, x_iload_0, x_iload_1, x_iload_2, x_iload_3, x_lload_0, x_lload_1, x_lload_2, x_lload_3, x_aload_0, x_aload_1, x_aload_2, x_aload_3, x_istore_0, x_istore_1, x_istore_2, x_istore_3, x_lstore_0, x_lstore_1, x_lstore_2, x_lstore_3, x_astore_0, x_astore_1, x_astore_2, x_astore_3, q_bipush_m3, q_bipush_m2, q_bipush_6, q_bipush_7, q_bipush_9, q_bipush_10, q_bipush_24, q_bipush_30, q_bipush_48, q_bipush_100, q_sipush_300, q_sipush_1000, q_sipush_24001, q_l0, q_l1, xtc_0_0, xtc_0_1, xtc_0_2, xtc_0_3, xtc_0_4, xtc_0_5, xtc_1_0, xtc_1_1, xtc_1_2, xtc_2_0, xtc_2_1, xtc_3_0, xtc_4_0, xtc_4_1, xtc_4_2, xtc_4_3, xtc_4_4, xtc_4_5, xtc_4_6, xtc_4_7, xtc_4_8, xtc_4_9, xtc_4_10, xtc_4_11, xtc_4_12, xtc_5_0, xtc_5_1, xtc_5_2, xtc_5_3, xtc_5_4, xtc_5_5, xtc_5_6, xtc_6_0, xtc_6_1, xtc_6_2, xtc_7_0, xtc_7_1, xtc_8_0, xtc_8_1, xtc_8_2, xtc_8_3, xtc_9_0, xtc_9_1, xtc_9_2, xtc_9_3, xtc_9_4, xtc_9_5, xtc_9_6, xtc_9_7, xtc_9_8, xtc_9_9, xtc_10_0, xtc_10_1, xtc_10_2, xtc_10_3, xtc_10_4, xtc_10_5, xtc_10_6, xtc_10_7, xtc_10_8, xtc_10_9, xtc_10_10, xtc_10_11, xtc_10_12, xtc_10_13, xtc_10_14, xtc_10_15, xtc_10_16, xtc_10_17, xtc_10_18, xtc_10_19, xtc_10_20, xtc_10_21, xtc_10_22, xtc_10_23, xtc_10_24, xtc_10_25, eq_self, reduceIte, Nat.reduceEqDiff, Nat.reduceAdd, Nat.reduceSub, Nat.zero_ne_one, Nat.one_ne_zero, Nat.succ_ne_zero, Nat.reduceLeDiff, reduceCtorEq, and_true, true_and, and_false, false_and, true_implies, false_implies, implies_true, not_true_eq_false, not_false_eq_true, xN_0, xN_s, xlook_c, xlook_n, xb_nil, xb_cons, xlen, xl_cons, xst_def, xst2_def, xdl_nil, xdl_int, xdl_ref, xdl_long, xrv_some, xfit_int, xfit_long, xfit_ref, cat_int, cat_ref, cat_long, xret_int, xret_bool, or_true, true_or, Option.some.injEq, Value.int.injEq, Value.ref.injEq, Value.long.injEq, List.getElem?_cons_zero, List.getElem?_cons_succ, List.set_cons_zero, List.set_cons_succ, List.length_cons, List.length_nil, xup_xup, Classical.not_not, Nat.reduceLT, Nat.zero_lt_succ, I_b0]
  refine ⟨fun e => Or.inl (fun q => e q.1), fun e => ?_⟩
  refine cX10_capacity_18 (dc := 0) (cc := 0) (cs := 0) (by omega) (by omega) (by omega) (Nat.le_of_ble_eq_true rfl) (w_in l 0 _ _ (by omega) (by omega) (by omega) (by omega) (by omega) (by omega)) (pureQ ?_)
  simp only [Option.toList_some, Option.toList_none, List.cons_append, List.nil_append, Nat.sub_zero, Nat.reduceSub, Nat.sub_self]
  refine xN_ok (t := tX10_capacity) rfl (T := AX10_capacity) aX10_capacity 3 _ _ _ _ _ _ _ ?_
  simp only [AX10_capacity, oX10_capacity_0, oX10_capacity_10, oX10_capacity_21, oX10_capacity_24, oX10_capacity_27, rX10_capacity, x_iconst, x_bipush, x_sipush, x_lconst, x_iload, x_lload, x_aload, x_istore, x_lstore, x_astore, x_iinc, x_iadd, x_isub, x_imul, x_iand, x_ior, x_ixor, x_ishl, x_ishr, x_ineg, x_ladd, x_lsub, x_lmul, x_ldiv, x_lrem, x_lcmp, x_i2l, x_l2i, x_dup, x_dup_x1, x_dup2, x_if_eq, x_if_ne, x_if_lt, x_if_ge, x_if_gt, x_if_le, x_ic_eq, x_ic_ne, x_ic_lt, x_ic_ge, x_ic_gt, x_ic_le, x_goto, x_ireturn, x_lreturn, x_return, x_getfield, x_putfield, x_iaload, x_baload, x_laload, x_aaload, x_iastore, x_bastore, x_lastore, x_aastore, x_arraylength, x_newarray, x_anewarray, x_new, x_iload_0, x_iload_1, x_iload_2, x_iload_3, x_lload_0, x_lload_1, x_lload_2, x_lload_3, x_aload_0, x_aload_1, x_aload_2, x_aload_3, x_istore_0, x_istore_1, x_istore_2, x_istore_3, x_lstore_0, x_lstore_1, x_lstore_2, x_lstore_3, x_astore_0, x_astore_1, x_astore_2, x_astore_3, q_bipush_m3, q_bipush_m2, q_bipush_6, q_bipush_7, q_bipush_9, q_bipush_10, q_bipush_24, q_bipush_30, q_bipush_48, q_bipush_100, q_sipush_300, q_sipush_1000, q_sipush_24001, q_l0, q_l1, xtc_0_0, xtc_0_1, xtc_0_2, xtc_0_3, xtc_0_4, xtc_0_5, xtc_1_0, xtc_1_1, xtc_1_2, xtc_2_0, xtc_2_1, xtc_3_0, xtc_4_0, xtc_4_1, xtc_4_2, xtc_4_3, xtc_4_4, xtc_4_5, xtc_4_6, xtc_4_7, xtc_4_8, xtc_4_9, xtc_4_10, xtc_4_11, xtc_4_12, xtc_5_0, xtc_5_1, xtc_5_2, xtc_5_3, xtc_5_4, xtc_5_5, xtc_5_6, xtc_6_0, xtc_6_1, xtc_6_2, xtc_7_0, xtc_7_1, xtc_8_0, xtc_8_1, xtc_8_2, xtc_8_3, xtc_9_0, xtc_9_1, xtc_9_2, xtc_9_3, xtc_9_4, xtc_9_5, xtc_9_6, xtc_9_7, xtc_9_8, xtc_9_9, xtc_10_0, xtc_10_1, xtc_10_2, xtc_10_3, xtc_10_4, xtc_10_5, xtc_10_6, xtc_10_7, xtc_10_8, xtc_10_9, xtc_10_10, xtc_10_11, xtc_10_12, xtc_10_13, xtc_10_14, xtc_10_15, xtc_10_16, xtc_10_17, xtc_10_18, xtc_10_19, xtc_10_20, xtc_10_21, xtc_10_22, xtc_10_23, xtc_10_24, xtc_10_25, eq_self, reduceIte, Nat.reduceEqDiff, Nat.reduceAdd, Nat.reduceSub, Nat.zero_ne_one, Nat.one_ne_zero, Nat.succ_ne_zero, Nat.reduceLeDiff, reduceCtorEq, and_true, true_and, and_false, false_and, true_implies, false_implies, implies_true, not_true_eq_false, not_false_eq_true, xN_0, xN_s, xlook_c, xlook_n, xb_nil, xb_cons, xlen, xl_cons, xst_def, xst2_def, xdl_nil, xdl_int, xdl_ref, xdl_long, xrv_some, xfit_int, xfit_long, xfit_ref, cat_int, cat_ref, cat_long, xret_int, xret_bool, or_true, true_or, Option.some.injEq, Value.int.injEq, Value.ref.injEq, Value.long.injEq, List.getElem?_cons_zero, List.getElem?_cons_succ, List.set_cons_zero, List.set_cons_succ, List.length_cons, List.length_nil, xup_xup, Classical.not_not, Nat.reduceLT, Nat.zero_lt_succ, I_b0, m1, m4, xup_self, xup_ne, ne_eq, I_add, ra_len]
  simp (disch := omega) only [I_lt, I_le, I_eq, I_in, I_add, I_sub, I_mul, I_b0, I_b01, b_eq0, b_eq1, Classical.not_not, ra_get, ra_set, ra_len, Int.toNat_natCast, eq_self, true_and, and_true, ne_eq, not_false_eq_true, not_true_eq_false]
  refine ⟨fun e2 => ⟨by omega, by omega, Or.inr ⟨⟨e, e2⟩, ?_, ?_⟩⟩, fun e2 => Or.inl (fun q => e2 q.2)⟩
  · simp only [ModAt, putF, xup_self, xup_ne, ne_eq, Nat.reduceEqDiff, not_false_eq_true, m1, m2, m3, m4, m5, m6, m7, m8, m9, sF]
    simp
  · intro q hq
    simp only [xup]
    repeat rw [if_neg (by omega)]
theorem v_demand (hM : ModAt ws S bw bs) (hw : WF S) (hd : 2 ≤ d) {a b : Int} (h1 : -2147483648 ≤ a) (h2 : a < 2147483648) (h3 : -2147483648 ≤ b) (h4 : b < 2147483648) : xM l tX10_demand d 0 0 [.ref 121, .int (I a), .int (I b)] n ws (fun r n' ws' => n' = n ∧ ((¬ ((0 ≤ a ∧ a < S.ng) ∧ (1 ≤ b ∧ b ≤ 1000)) ∧ r = some (.int (I (-2))) ∧ ws' = ws) ∨ (((0 ≤ a ∧ a < S.ng) ∧ (1 ≤ b ∧ b ≤ 1000)) ∧ r = some (.int (I (S.2 6 a.toNat))) ∧ ModAt ws' (putF S 6 a.toNat b) bw bs ∧ ∀ q, q ≤ 120 ∨ 130 ≤ q → ws' q = ws q))) := by
  have hM0 := hM
  obtain ⟨m1, m2, m3, m4, m5, m6, m7, m8, m9⟩ := hM
  have hb2 : S.ng ≤ 6 := hw.2.2.1
  refine xM.of (by decide) (Nat.le_of_ble_eq_true rfl) ?_
  simp only [lv_args, cat_int, cat_ref, cat_long, reduceIte, Nat.reduceEqDiff, Nat.reduceAdd, Nat.one_ne_zero, Nat.reduceLeDiff]
  refine xN_ok (t := tX10_demand) rfl (T := AX10_demand) aX10_demand 1 _ _ _ _ _ _ _ ?_
  simp only [AX10_demand, oX10_demand_0, oX10_demand_10, oX10_demand_21, oX10_demand_24, oX10_demand_27, rX10_demand, x_iconst, x_bipush, x_sipush, x_lconst, x_iload, x_lload, x_aload, x_istore, x_lstore, x_astore, x_iinc, x_iadd, x_isub, x_imul, x_iand, x_ior, x_ixor, x_ishl, x_ishr, x_ineg, x_ladd, x_lsub, x_lmul, x_ldiv, x_lrem, x_lcmp, x_i2l, x_l2i, x_dup, x_dup_x1, x_dup2, x_if_eq, x_if_ne, x_if_lt, x_if_ge, x_if_gt, x_if_le, x_ic_eq, x_ic_ne, x_ic_lt, x_ic_ge, x_ic_gt, x_ic_le, x_goto, x_ireturn, x_lreturn, x_return, x_getfield, x_putfield, x_iaload, x_baload, x_laload, x_aaload, x_iastore, x_bastore, x_lastore, x_aastore, x_arraylength, x_newarray, x_anewarray, x_new, x_iload_0, x_iload_1, x_iload_2, x_iload_3, x_lload_0, x_lload_1, x_lload_2, x_lload_3, x_aload_0, x_aload_1, x_aload_2, x_aload_3, x_istore_0, x_istore_1, x_istore_2, x_istore_3, x_lstore_0, x_lstore_1, x_lstore_2, x_lstore_3, x_astore_0, x_astore_1, x_astore_2, x_astore_3, q_bipush_m3, q_bipush_m2, q_bipush_6, q_bipush_7, q_bipush_9, q_bipush_10, q_bipush_24, q_bipush_30, q_bipush_48, q_bipush_100, q_sipush_300, q_sipush_1000, q_sipush_24001, q_l0, q_l1, xtc_0_0, xtc_0_1, xtc_0_2, xtc_0_3, xtc_0_4, xtc_0_5, xtc_1_0, xtc_1_1, xtc_1_2, xtc_2_0, xtc_2_1, xtc_3_0, xtc_4_0, xtc_4_1, xtc_4_2, xtc_4_3, xtc_4_4, xtc_4_5, xtc_4_6, xtc_4_7, xtc_4_8, xtc_4_9, xtc_4_10, xtc_4_11, xtc_4_12, xtc_5_0, xtc_5_1, xtc_5_2, xtc_5_3, xtc_5_4, xtc_5_5, xtc_5_6, xtc_6_0, xtc_6_1, xtc_6_2, xtc_7_0, xtc_7_1, xtc_8_0, xtc_8_1, xtc_8_2, xtc_8_3, xtc_9_0, xtc_9_1, xtc_9_2, xtc_9_3, xtc_9_4, xtc_9_5, xtc_9_6, xtc_9_7, xtc_9_8, xtc_9_9, xtc_10_0, xtc_10_1, xtc_10_2, xtc_10_3, xtc_10_4, xtc_10_5, xtc_10_6, xtc_10_7, xtc_10_8, xtc_10_9, xtc_10_10, xtc_10_11, xtc_10_12, xtc_10_13, xtc_10_14, xtc_10_15, xtc_10_16, xtc_10_17, xtc_10_18, xtc_10_19, xtc_10_20, xtc_10_21, xtc_10_22, xtc_10_23, xtc_10_24, xtc_10_25, eq_self, reduceIte, Nat.reduceEqDiff, Nat.reduceAdd, Nat.reduceSub, Nat.zero_ne_one, Nat.one_ne_zero, Nat.succ_ne_zero, Nat.reduceLeDiff, reduceCtorEq, and_true, true_and, and_false, false_and, true_implies, false_implies, implies_true, not_true_eq_false, not_false_eq_true, xN_0, xN_s, xlook_c, xlook_n, xb_nil, xb_cons, xlen, xl_cons, xst_def, xst2_def, xdl_nil, xdl_int, xdl_ref, xdl_long, xrv_some, xfit_int, xfit_long, xfit_ref, cat_int, cat_ref, cat_long, xret_int, xret_bool, or_true, true_or, Option.some.injEq, Value.int.injEq, Value.ref.injEq, Value.long.injEq, List.getElem?_cons_zero, List.getElem?_cons_succ, List.set_cons_zero, List.set_cons_succ, List.length_cons, List.length_nil, xup_xup, Classical.not_not, Nat.reduceLT, Nat.zero_lt_succ, m1, xup_id m1]
  refine cX10_demand_7 m1 (dc := 1) (cc := 0) (cs := 0) (by omega) (by omega) (by omega) (Nat.le_of_ble_eq_true rfl) (v_noGood hM0 (by omega) hw h1 h2) (pureQ ?_)
  simp only [Option.toList_some, Option.toList_none, List.cons_append, List.nil_append, Nat.sub_zero, Nat.reduceSub, Nat.sub_self]
  refine xN_ok (t := tX10_demand) rfl (T := AX10_demand) aX10_demand 2 _ _ _ _ _ _ _ ?_
  simp only [AX10_demand, oX10_demand_0, oX10_demand_10, oX10_demand_21, oX10_demand_24, oX10_demand_27, rX10_demand, x_iconst, x_bipush, x_sipush, x_lconst, x_iload, x_lload, x_aload, x_istore, x_lstore, x_astore, x_iinc, x_iadd, x_isub, x_imul, x_iand, x_ior, x_ixor, x_ishl, x_ishr, x_ineg, x_ladd, x_lsub, x_lmul, x_ldiv, x_lrem, x_lcmp, x_i2l, x_l2i, x_dup, x_dup_x1, x_dup2, x_if_eq, x_if_ne, x_if_lt, x_if_ge, x_if_gt, x_if_le, x_ic_eq, x_ic_ne, x_ic_lt, x_ic_ge, x_ic_gt, x_ic_le, x_goto, x_ireturn, x_lreturn, x_return, x_getfield, x_putfield, x_iaload, x_baload, x_laload, x_aaload, x_iastore, x_bastore, x_lastore, x_aastore, x_arraylength, x_newarray, x_anewarray, x_new, x_iload_0, x_iload_1, x_iload_2, x_iload_3, x_lload_0, x_lload_1, x_lload_2, x_lload_3, x_aload_0, x_aload_1, x_aload_2, x_aload_3, x_istore_0, x_istore_1, x_istore_2, x_istore_3, x_lstore_0, x_lstore_1, x_lstore_2, x_lstore_3, x_astore_0, x_astore_1, x_astore_2, x_astore_3, q_bipush_m3, q_bipush_m2, q_bipush_6, q_bipush_7, q_bipush_9, q_bipush_10, q_bipush_24, q_bipush_30, q_bipush_48, q_bipush_100, q_sipush_300, q_sipush_1000, q_sipush_24001, q_l0, q_l1, xtc_0_0, xtc_0_1, xtc_0_2, xtc_0_3, xtc_0_4, xtc_0_5, xtc_1_0, xtc_1_1, xtc_1_2, xtc_2_0, xtc_2_1, xtc_3_0, xtc_4_0, xtc_4_1, xtc_4_2, xtc_4_3, xtc_4_4, xtc_4_5, xtc_4_6, xtc_4_7, xtc_4_8, xtc_4_9, xtc_4_10, xtc_4_11, xtc_4_12, xtc_5_0, xtc_5_1, xtc_5_2, xtc_5_3, xtc_5_4, xtc_5_5, xtc_5_6, xtc_6_0, xtc_6_1, xtc_6_2, xtc_7_0, xtc_7_1, xtc_8_0, xtc_8_1, xtc_8_2, xtc_8_3, xtc_9_0, xtc_9_1, xtc_9_2, xtc_9_3, xtc_9_4, xtc_9_5, xtc_9_6, xtc_9_7, xtc_9_8, xtc_9_9, xtc_10_0, xtc_10_1, xtc_10_2, xtc_10_3, xtc_10_4, xtc_10_5, xtc_10_6, xtc_10_7, xtc_10_8, xtc_10_9, xtc_10_10, xtc_10_11, xtc_10_12, xtc_10_13, xtc_10_14, xtc_10_15, xtc_10_16, xtc_10_17, xtc_10_18, xtc_10_19, xtc_10_20, xtc_10_21, xtc_10_22, xtc_10_23, xtc_10_24, xtc_10_25, eq_self, reduceIte, Nat.reduceEqDiff, Nat.reduceAdd, Nat.reduceSub, Nat.zero_ne_one, Nat.one_ne_zero, Nat.succ_ne_zero, Nat.reduceLeDiff, reduceCtorEq, and_true, true_and, and_false, false_and, true_implies, false_implies, implies_true, not_true_eq_false, not_false_eq_true, xN_0, xN_s, xlook_c, xlook_n, xb_nil, xb_cons, xlen, xl_cons, xst_def, xst2_def, xdl_nil, xdl_int, xdl_ref, xdl_long, xrv_some, xfit_int, xfit_long, xfit_ref, cat_int, cat_ref, cat_long, xret_int, xret_bool, or_true, true_or, Option.some.injEq, Value.int.injEq, Value.ref.injEq, Value.long.injEq, List.getElem?_cons_zero, List.getElem?_cons_succ, List.set_cons_zero, List.set_cons_succ, List.length_cons, List.length_nil, xup_xup, Classical.not_not, Nat.reduceLT, Nat.zero_lt_succ, I_b0]
  refine ⟨fun e => Or.inl (fun q => e q.1), fun e => ?_⟩
  refine cX10_demand_18 (dc := 0) (cc := 0) (cs := 0) (by omega) (by omega) (by omega) (Nat.le_of_ble_eq_true rfl) (w_in l 0 _ _ (by omega) (by omega) (by omega) (by omega) (by omega) (by omega)) (pureQ ?_)
  simp only [Option.toList_some, Option.toList_none, List.cons_append, List.nil_append, Nat.sub_zero, Nat.reduceSub, Nat.sub_self]
  refine xN_ok (t := tX10_demand) rfl (T := AX10_demand) aX10_demand 3 _ _ _ _ _ _ _ ?_
  simp only [AX10_demand, oX10_demand_0, oX10_demand_10, oX10_demand_21, oX10_demand_24, oX10_demand_27, rX10_demand, x_iconst, x_bipush, x_sipush, x_lconst, x_iload, x_lload, x_aload, x_istore, x_lstore, x_astore, x_iinc, x_iadd, x_isub, x_imul, x_iand, x_ior, x_ixor, x_ishl, x_ishr, x_ineg, x_ladd, x_lsub, x_lmul, x_ldiv, x_lrem, x_lcmp, x_i2l, x_l2i, x_dup, x_dup_x1, x_dup2, x_if_eq, x_if_ne, x_if_lt, x_if_ge, x_if_gt, x_if_le, x_ic_eq, x_ic_ne, x_ic_lt, x_ic_ge, x_ic_gt, x_ic_le, x_goto, x_ireturn, x_lreturn, x_return, x_getfield, x_putfield, x_iaload, x_baload, x_laload, x_aaload, x_iastore, x_bastore, x_lastore, x_aastore, x_arraylength, x_newarray, x_anewarray, x_new, x_iload_0, x_iload_1, x_iload_2, x_iload_3, x_lload_0, x_lload_1, x_lload_2, x_lload_3, x_aload_0, x_aload_1, x_aload_2, x_aload_3, x_istore_0, x_istore_1, x_istore_2, x_istore_3, x_lstore_0, x_lstore_1, x_lstore_2, x_lstore_3, x_astore_0, x_astore_1, x_astore_2, x_astore_3, q_bipush_m3, q_bipush_m2, q_bipush_6, q_bipush_7, q_bipush_9, q_bipush_10, q_bipush_24, q_bipush_30, q_bipush_48, q_bipush_100, q_sipush_300, q_sipush_1000, q_sipush_24001, q_l0, q_l1, xtc_0_0, xtc_0_1, xtc_0_2, xtc_0_3, xtc_0_4, xtc_0_5, xtc_1_0, xtc_1_1, xtc_1_2, xtc_2_0, xtc_2_1, xtc_3_0, xtc_4_0, xtc_4_1, xtc_4_2, xtc_4_3, xtc_4_4, xtc_4_5, xtc_4_6, xtc_4_7, xtc_4_8, xtc_4_9, xtc_4_10, xtc_4_11, xtc_4_12, xtc_5_0, xtc_5_1, xtc_5_2, xtc_5_3, xtc_5_4, xtc_5_5, xtc_5_6, xtc_6_0, xtc_6_1, xtc_6_2, xtc_7_0, xtc_7_1, xtc_8_0, xtc_8_1, xtc_8_2, xtc_8_3, xtc_9_0, xtc_9_1, xtc_9_2, xtc_9_3, xtc_9_4, xtc_9_5, xtc_9_6, xtc_9_7, xtc_9_8, xtc_9_9, xtc_10_0, xtc_10_1, xtc_10_2, xtc_10_3, xtc_10_4, xtc_10_5, xtc_10_6, xtc_10_7, xtc_10_8, xtc_10_9, xtc_10_10, xtc_10_11, xtc_10_12, xtc_10_13, xtc_10_14, xtc_10_15, xtc_10_16, xtc_10_17, xtc_10_18, xtc_10_19, xtc_10_20, xtc_10_21, xtc_10_22, xtc_10_23, xtc_10_24, xtc_10_25, eq_self, reduceIte, Nat.reduceEqDiff, Nat.reduceAdd, Nat.reduceSub, Nat.zero_ne_one, Nat.one_ne_zero, Nat.succ_ne_zero, Nat.reduceLeDiff, reduceCtorEq, and_true, true_and, and_false, false_and, true_implies, false_implies, implies_true, not_true_eq_false, not_false_eq_true, xN_0, xN_s, xlook_c, xlook_n, xb_nil, xb_cons, xlen, xl_cons, xst_def, xst2_def, xdl_nil, xdl_int, xdl_ref, xdl_long, xrv_some, xfit_int, xfit_long, xfit_ref, cat_int, cat_ref, cat_long, xret_int, xret_bool, or_true, true_or, Option.some.injEq, Value.int.injEq, Value.ref.injEq, Value.long.injEq, List.getElem?_cons_zero, List.getElem?_cons_succ, List.set_cons_zero, List.set_cons_succ, List.length_cons, List.length_nil, xup_xup, Classical.not_not, Nat.reduceLT, Nat.zero_lt_succ, I_b0, m1, m8, xup_self, xup_ne, ne_eq, I_add, ra_len]
  simp (disch := omega) only [I_lt, I_le, I_eq, I_in, I_add, I_sub, I_mul, I_b0, I_b01, b_eq0, b_eq1, Classical.not_not, ra_get, ra_set, ra_len, Int.toNat_natCast, eq_self, true_and, and_true, ne_eq, not_false_eq_true, not_true_eq_false]
  refine ⟨fun e2 => ⟨by omega, by omega, Or.inr ⟨⟨e, e2⟩, ?_, ?_⟩⟩, fun e2 => Or.inl (fun q => e2 q.2)⟩
  · simp only [ModAt, putF, xup_self, xup_ne, ne_eq, Nat.reduceEqDiff, not_false_eq_true, m1, m2, m3, m4, m5, m6, m7, m8, m9, sF]
    simp
  · intro q hq
    simp only [xup]
    repeat rw [if_neg (by omega)]
theorem v_worth (hM : ModAt ws S bw bs) (hw : WF S) (hd : 2 ≤ d) {a b : Int} (h1 : -2147483648 ≤ a) (h2 : a < 2147483648) (h3 : -2147483648 ≤ b) (h4 : b < 2147483648) : xM l tX10_worth d 0 0 [.ref 121, .int (I a), .int (I b)] n ws (fun r n' ws' => n' = n ∧ ((¬ ((0 ≤ a ∧ a < S.ng) ∧ (0 ≤ b ∧ b ≤ 1000)) ∧ r = some (.int (I (-2))) ∧ ws' = ws) ∨ (((0 ≤ a ∧ a < S.ng) ∧ (0 ≤ b ∧ b ≤ 1000)) ∧ r = some (.int (I (S.2 7 a.toNat))) ∧ ModAt ws' (putF S 7 a.toNat b) bw bs ∧ ∀ q, q ≤ 120 ∨ 130 ≤ q → ws' q = ws q))) := by
  have hM0 := hM
  obtain ⟨m1, m2, m3, m4, m5, m6, m7, m8, m9⟩ := hM
  have hb2 : S.ng ≤ 6 := hw.2.2.1
  refine xM.of (by decide) (Nat.le_of_ble_eq_true rfl) ?_
  simp only [lv_args, cat_int, cat_ref, cat_long, reduceIte, Nat.reduceEqDiff, Nat.reduceAdd, Nat.one_ne_zero, Nat.reduceLeDiff]
  refine xN_ok (t := tX10_worth) rfl (T := AX10_worth) aX10_worth 1 _ _ _ _ _ _ _ ?_
  simp only [AX10_worth, oX10_worth_0, oX10_worth_10, oX10_worth_21, oX10_worth_24, oX10_worth_27, rX10_worth, x_iconst, x_bipush, x_sipush, x_lconst, x_iload, x_lload, x_aload, x_istore, x_lstore, x_astore, x_iinc, x_iadd, x_isub, x_imul, x_iand, x_ior, x_ixor, x_ishl, x_ishr, x_ineg, x_ladd, x_lsub, x_lmul, x_ldiv, x_lrem, x_lcmp, x_i2l, x_l2i, x_dup, x_dup_x1, x_dup2, x_if_eq, x_if_ne, x_if_lt, x_if_ge, x_if_gt, x_if_le, x_ic_eq, x_ic_ne, x_ic_lt, x_ic_ge, x_ic_gt, x_ic_le, x_goto, x_ireturn, x_lreturn, x_return, x_getfield, x_putfield, x_iaload, x_baload, x_laload, x_aaload, x_iastore, x_bastore, x_lastore, x_aastore, x_arraylength, x_newarray, x_anewarray, x_new, x_iload_0, x_iload_1, x_iload_2, x_iload_3, x_lload_0, x_lload_1, x_lload_2, x_lload_3, x_aload_0, x_aload_1, x_aload_2, x_aload_3, x_istore_0, x_istore_1, x_istore_2, x_istore_3, x_lstore_0, x_lstore_1, x_lstore_2, x_lstore_3, x_astore_0, x_astore_1, x_astore_2, x_astore_3, q_bipush_m3, q_bipush_m2, q_bipush_6, q_bipush_7, q_bipush_9, q_bipush_10, q_bipush_24, q_bipush_30, q_bipush_48, q_bipush_100, q_sipush_300, q_sipush_1000, q_sipush_24001, q_l0, q_l1, xtc_0_0, xtc_0_1, xtc_0_2, xtc_0_3, xtc_0_4, xtc_0_5, xtc_1_0, xtc_1_1, xtc_1_2, xtc_2_0, xtc_2_1, xtc_3_0, xtc_4_0, xtc_4_1, xtc_4_2, xtc_4_3, xtc_4_4, xtc_4_5, xtc_4_6, xtc_4_7, xtc_4_8, xtc_4_9, xtc_4_10, xtc_4_11, xtc_4_12, xtc_5_0, xtc_5_1, xtc_5_2, xtc_5_3, xtc_5_4, xtc_5_5, xtc_5_6, xtc_6_0, xtc_6_1, xtc_6_2, xtc_7_0, xtc_7_1, xtc_8_0, xtc_8_1, xtc_8_2, xtc_8_3, xtc_9_0, xtc_9_1, xtc_9_2, xtc_9_3, xtc_9_4, xtc_9_5, xtc_9_6, xtc_9_7, xtc_9_8, xtc_9_9, xtc_10_0, xtc_10_1, xtc_10_2, xtc_10_3, xtc_10_4, xtc_10_5, xtc_10_6, xtc_10_7, xtc_10_8, xtc_10_9, xtc_10_10, xtc_10_11, xtc_10_12, xtc_10_13, xtc_10_14, xtc_10_15, xtc_10_16, xtc_10_17, xtc_10_18, xtc_10_19, xtc_10_20, xtc_10_21, xtc_10_22, xtc_10_23, xtc_10_24, xtc_10_25, eq_self, reduceIte, Nat.reduceEqDiff, Nat.reduceAdd, Nat.reduceSub, Nat.zero_ne_one, Nat.one_ne_zero, Nat.succ_ne_zero, Nat.reduceLeDiff, reduceCtorEq, and_true, true_and, and_false, false_and, true_implies, false_implies, implies_true, not_true_eq_false, not_false_eq_true, xN_0, xN_s, xlook_c, xlook_n, xb_nil, xb_cons, xlen, xl_cons, xst_def, xst2_def, xdl_nil, xdl_int, xdl_ref, xdl_long, xrv_some, xfit_int, xfit_long, xfit_ref, cat_int, cat_ref, cat_long, xret_int, xret_bool, or_true, true_or, Option.some.injEq, Value.int.injEq, Value.ref.injEq, Value.long.injEq, List.getElem?_cons_zero, List.getElem?_cons_succ, List.set_cons_zero, List.set_cons_succ, List.length_cons, List.length_nil, xup_xup, Classical.not_not, Nat.reduceLT, Nat.zero_lt_succ, m1, xup_id m1]
  refine cX10_worth_7 m1 (dc := 1) (cc := 0) (cs := 0) (by omega) (by omega) (by omega) (Nat.le_of_ble_eq_true rfl) (v_noGood hM0 (by omega) hw h1 h2) (pureQ ?_)
  simp only [Option.toList_some, Option.toList_none, List.cons_append, List.nil_append, Nat.sub_zero, Nat.reduceSub, Nat.sub_self]
  refine xN_ok (t := tX10_worth) rfl (T := AX10_worth) aX10_worth 2 _ _ _ _ _ _ _ ?_
  simp only [AX10_worth, oX10_worth_0, oX10_worth_10, oX10_worth_21, oX10_worth_24, oX10_worth_27, rX10_worth, x_iconst, x_bipush, x_sipush, x_lconst, x_iload, x_lload, x_aload, x_istore, x_lstore, x_astore, x_iinc, x_iadd, x_isub, x_imul, x_iand, x_ior, x_ixor, x_ishl, x_ishr, x_ineg, x_ladd, x_lsub, x_lmul, x_ldiv, x_lrem, x_lcmp, x_i2l, x_l2i, x_dup, x_dup_x1, x_dup2, x_if_eq, x_if_ne, x_if_lt, x_if_ge, x_if_gt, x_if_le, x_ic_eq, x_ic_ne, x_ic_lt, x_ic_ge, x_ic_gt, x_ic_le, x_goto, x_ireturn, x_lreturn, x_return, x_getfield, x_putfield, x_iaload, x_baload, x_laload, x_aaload, x_iastore, x_bastore, x_lastore, x_aastore, x_arraylength, x_newarray, x_anewarray, x_new, x_iload_0, x_iload_1, x_iload_2, x_iload_3, x_lload_0, x_lload_1, x_lload_2, x_lload_3, x_aload_0, x_aload_1, x_aload_2, x_aload_3, x_istore_0, x_istore_1, x_istore_2, x_istore_3, x_lstore_0, x_lstore_1, x_lstore_2, x_lstore_3, x_astore_0, x_astore_1, x_astore_2, x_astore_3, q_bipush_m3, q_bipush_m2, q_bipush_6, q_bipush_7, q_bipush_9, q_bipush_10, q_bipush_24, q_bipush_30, q_bipush_48, q_bipush_100, q_sipush_300, q_sipush_1000, q_sipush_24001, q_l0, q_l1, xtc_0_0, xtc_0_1, xtc_0_2, xtc_0_3, xtc_0_4, xtc_0_5, xtc_1_0, xtc_1_1, xtc_1_2, xtc_2_0, xtc_2_1, xtc_3_0, xtc_4_0, xtc_4_1, xtc_4_2, xtc_4_3, xtc_4_4, xtc_4_5, xtc_4_6, xtc_4_7, xtc_4_8, xtc_4_9, xtc_4_10, xtc_4_11, xtc_4_12, xtc_5_0, xtc_5_1, xtc_5_2, xtc_5_3, xtc_5_4, xtc_5_5, xtc_5_6, xtc_6_0, xtc_6_1, xtc_6_2, xtc_7_0, xtc_7_1, xtc_8_0, xtc_8_1, xtc_8_2, xtc_8_3, xtc_9_0, xtc_9_1, xtc_9_2, xtc_9_3, xtc_9_4, xtc_9_5, xtc_9_6, xtc_9_7, xtc_9_8, xtc_9_9, xtc_10_0, xtc_10_1, xtc_10_2, xtc_10_3, xtc_10_4, xtc_10_5, xtc_10_6, xtc_10_7, xtc_10_8, xtc_10_9, xtc_10_10, xtc_10_11, xtc_10_12, xtc_10_13, xtc_10_14, xtc_10_15, xtc_10_16, xtc_10_17, xtc_10_18, xtc_10_19, xtc_10_20, xtc_10_21, xtc_10_22, xtc_10_23, xtc_10_24, xtc_10_25, eq_self, reduceIte, Nat.reduceEqDiff, Nat.reduceAdd, Nat.reduceSub, Nat.zero_ne_one, Nat.one_ne_zero, Nat.succ_ne_zero, Nat.reduceLeDiff, reduceCtorEq, and_true, true_and, and_false, false_and, true_implies, false_implies, implies_true, not_true_eq_false, not_false_eq_true, xN_0, xN_s, xlook_c, xlook_n, xb_nil, xb_cons, xlen, xl_cons, xst_def, xst2_def, xdl_nil, xdl_int, xdl_ref, xdl_long, xrv_some, xfit_int, xfit_long, xfit_ref, cat_int, cat_ref, cat_long, xret_int, xret_bool, or_true, true_or, Option.some.injEq, Value.int.injEq, Value.ref.injEq, Value.long.injEq, List.getElem?_cons_zero, List.getElem?_cons_succ, List.set_cons_zero, List.set_cons_succ, List.length_cons, List.length_nil, xup_xup, Classical.not_not, Nat.reduceLT, Nat.zero_lt_succ, I_b0]
  refine ⟨fun e => Or.inl (fun q => e q.1), fun e => ?_⟩
  refine cX10_worth_18 (dc := 0) (cc := 0) (cs := 0) (by omega) (by omega) (by omega) (Nat.le_of_ble_eq_true rfl) (w_in l 0 _ _ (by omega) (by omega) (by omega) (by omega) (by omega) (by omega)) (pureQ ?_)
  simp only [Option.toList_some, Option.toList_none, List.cons_append, List.nil_append, Nat.sub_zero, Nat.reduceSub, Nat.sub_self]
  refine xN_ok (t := tX10_worth) rfl (T := AX10_worth) aX10_worth 3 _ _ _ _ _ _ _ ?_
  simp only [AX10_worth, oX10_worth_0, oX10_worth_10, oX10_worth_21, oX10_worth_24, oX10_worth_27, rX10_worth, x_iconst, x_bipush, x_sipush, x_lconst, x_iload, x_lload, x_aload, x_istore, x_lstore, x_astore, x_iinc, x_iadd, x_isub, x_imul, x_iand, x_ior, x_ixor, x_ishl, x_ishr, x_ineg, x_ladd, x_lsub, x_lmul, x_ldiv, x_lrem, x_lcmp, x_i2l, x_l2i, x_dup, x_dup_x1, x_dup2, x_if_eq, x_if_ne, x_if_lt, x_if_ge, x_if_gt, x_if_le, x_ic_eq, x_ic_ne, x_ic_lt, x_ic_ge, x_ic_gt, x_ic_le, x_goto, x_ireturn, x_lreturn, x_return, x_getfield, x_putfield, x_iaload, x_baload, x_laload, x_aaload, x_iastore, x_bastore, x_lastore, x_aastore, x_arraylength, x_newarray, x_anewarray, x_new, x_iload_0, x_iload_1, x_iload_2, x_iload_3, x_lload_0, x_lload_1, x_lload_2, x_lload_3, x_aload_0, x_aload_1, x_aload_2, x_aload_3, x_istore_0, x_istore_1, x_istore_2, x_istore_3, x_lstore_0, x_lstore_1, x_lstore_2, x_lstore_3, x_astore_0, x_astore_1, x_astore_2, x_astore_3, q_bipush_m3, q_bipush_m2, q_bipush_6, q_bipush_7, q_bipush_9, q_bipush_10, q_bipush_24, q_bipush_30, q_bipush_48, q_bipush_100, q_sipush_300, q_sipush_1000, q_sipush_24001, q_l0, q_l1, xtc_0_0, xtc_0_1, xtc_0_2, xtc_0_3, xtc_0_4, xtc_0_5, xtc_1_0, xtc_1_1, xtc_1_2, xtc_2_0, xtc_2_1, xtc_3_0, xtc_4_0, xtc_4_1, xtc_4_2, xtc_4_3, xtc_4_4, xtc_4_5, xtc_4_6, xtc_4_7, xtc_4_8, xtc_4_9, xtc_4_10, xtc_4_11, xtc_4_12, xtc_5_0, xtc_5_1, xtc_5_2, xtc_5_3, xtc_5_4, xtc_5_5, xtc_5_6, xtc_6_0, xtc_6_1, xtc_6_2, xtc_7_0, xtc_7_1, xtc_8_0, xtc_8_1, xtc_8_2, xtc_8_3, xtc_9_0, xtc_9_1, xtc_9_2, xtc_9_3, xtc_9_4, xtc_9_5, xtc_9_6, xtc_9_7, xtc_9_8, xtc_9_9, xtc_10_0, xtc_10_1, xtc_10_2, xtc_10_3, xtc_10_4, xtc_10_5, xtc_10_6, xtc_10_7, xtc_10_8, xtc_10_9, xtc_10_10, xtc_10_11, xtc_10_12, xtc_10_13, xtc_10_14, xtc_10_15, xtc_10_16, xtc_10_17, xtc_10_18, xtc_10_19, xtc_10_20, xtc_10_21, xtc_10_22, xtc_10_23, xtc_10_24, xtc_10_25, eq_self, reduceIte, Nat.reduceEqDiff, Nat.reduceAdd, Nat.reduceSub, Nat.zero_ne_one, Nat.one_ne_zero, Nat.succ_ne_zero, Nat.reduceLeDiff, reduceCtorEq, and_true, true_and, and_false, false_and, true_implies, false_implies, implies_true, not_true_eq_false, not_false_eq_true, xN_0, xN_s, xlook_c, xlook_n, xb_nil, xb_cons, xlen, xl_cons, xst_def, xst2_def, xdl_nil, xdl_int, xdl_ref, xdl_long, xrv_some, xfit_int, xfit_long, xfit_ref, cat_int, cat_ref, cat_long, xret_int, xret_bool, or_true, true_or, Option.some.injEq, Value.int.injEq, Value.ref.injEq, Value.long.injEq, List.getElem?_cons_zero, List.getElem?_cons_succ, List.set_cons_zero, List.set_cons_succ, List.length_cons, List.length_nil, xup_xup, Classical.not_not, Nat.reduceLT, Nat.zero_lt_succ, I_b0, m1, m9, xup_self, xup_ne, ne_eq, I_add, ra_len]
  simp (disch := omega) only [I_lt, I_le, I_eq, I_in, I_add, I_sub, I_mul, I_b0, I_b01, b_eq0, b_eq1, Classical.not_not, ra_get, ra_set, ra_len, Int.toNat_natCast, eq_self, true_and, and_true, ne_eq, not_false_eq_true, not_true_eq_false]
  refine ⟨fun e2 => ⟨by omega, by omega, Or.inr ⟨⟨e, e2⟩, ?_, ?_⟩⟩, fun e2 => Or.inl (fun q => e2 q.2)⟩
  · simp only [ModAt, putF, xup_self, xup_ne, ne_eq, Nat.reduceEqDiff, not_false_eq_true, m1, m2, m3, m4, m5, m6, m7, m8, m9, sF]
    simp
  · intro q hq
    simp only [xup]
    repeat rw [if_neg (by omega)]
theorem v_attempt (hM : ModAt ws S bw bs) (hw : WF S) (hd : 2 ≤ d) {fA : Nat → Int} (hA : ws 130 = some (0, .inl (ra 6 fA))) {a b : Int} (h1 : -2147483648 ≤ a) (h2 : a < 2147483648) (h3 : -2147483648 ≤ b) (h4 : b < 2147483648) : xM l tX10_attempt d 0 0 [.ref 121, .int (I a), .int (I b)] n ws (fun r n' ws' => n' = n ∧ ((¬ ((0 ≤ a ∧ a < S.ng) ∧ (-1 ≤ b ∧ b ≤ 4)) ∧ r = some (.int (I (-2))) ∧ ws' = ws) ∨ (((0 ≤ a ∧ a < S.ng) ∧ (-1 ≤ b ∧ b ≤ 4)) ∧ r = some (.int (I (fA a.toNat))) ∧ ws' = xup ws 130 (0, .inl (ra 6 (fu fA a.toNat b)))))) := by
  have hM0 := hM
  obtain ⟨m1, m2, m3, m4, m5, m6, m7, m8, m9⟩ := hM
  have hb2 : S.ng ≤ 6 := hw.2.2.1
  refine xM.of (by decide) (Nat.le_of_ble_eq_true rfl) ?_
  simp only [lv_args, cat_int, cat_ref, cat_long, reduceIte, Nat.reduceEqDiff, Nat.reduceAdd, Nat.one_ne_zero, Nat.reduceLeDiff]
  refine xN_ok (t := tX10_attempt) rfl (T := AX10_attempt) aX10_attempt 1 _ _ _ _ _ _ _ ?_
  simp only [AX10_attempt, oX10_attempt_0, oX10_attempt_10, oX10_attempt_19, oX10_attempt_22, oX10_attempt_25, rX10_attempt, x_iconst, x_bipush, x_sipush, x_lconst, x_iload, x_lload, x_aload, x_istore, x_lstore, x_astore, x_iinc, x_iadd, x_isub, x_imul, x_iand, x_ior, x_ixor, x_ishl, x_ishr, x_ineg, x_ladd, x_lsub, x_lmul, x_ldiv, x_lrem, x_lcmp, x_i2l, x_l2i, x_dup, x_dup_x1, x_dup2, x_if_eq, x_if_ne, x_if_lt, x_if_ge, x_if_gt, x_if_le, x_ic_eq, x_ic_ne, x_ic_lt, x_ic_ge, x_ic_gt, x_ic_le, x_goto, x_ireturn, x_lreturn, x_return, x_getfield, x_putfield, x_iaload, x_baload, x_laload, x_aaload, x_iastore, x_bastore, x_lastore, x_aastore, x_arraylength, x_newarray, x_anewarray, x_new, x_iload_0, x_iload_1, x_iload_2, x_iload_3, x_lload_0, x_lload_1, x_lload_2, x_lload_3, x_aload_0, x_aload_1, x_aload_2, x_aload_3, x_istore_0, x_istore_1, x_istore_2, x_istore_3, x_lstore_0, x_lstore_1, x_lstore_2, x_lstore_3, x_astore_0, x_astore_1, x_astore_2, x_astore_3, q_bipush_m3, q_bipush_m2, q_bipush_6, q_bipush_7, q_bipush_9, q_bipush_10, q_bipush_24, q_bipush_30, q_bipush_48, q_bipush_100, q_sipush_300, q_sipush_1000, q_sipush_24001, q_l0, q_l1, xtc_0_0, xtc_0_1, xtc_0_2, xtc_0_3, xtc_0_4, xtc_0_5, xtc_1_0, xtc_1_1, xtc_1_2, xtc_2_0, xtc_2_1, xtc_3_0, xtc_4_0, xtc_4_1, xtc_4_2, xtc_4_3, xtc_4_4, xtc_4_5, xtc_4_6, xtc_4_7, xtc_4_8, xtc_4_9, xtc_4_10, xtc_4_11, xtc_4_12, xtc_5_0, xtc_5_1, xtc_5_2, xtc_5_3, xtc_5_4, xtc_5_5, xtc_5_6, xtc_6_0, xtc_6_1, xtc_6_2, xtc_7_0, xtc_7_1, xtc_8_0, xtc_8_1, xtc_8_2, xtc_8_3, xtc_9_0, xtc_9_1, xtc_9_2, xtc_9_3, xtc_9_4, xtc_9_5, xtc_9_6, xtc_9_7, xtc_9_8, xtc_9_9, xtc_10_0, xtc_10_1, xtc_10_2, xtc_10_3, xtc_10_4, xtc_10_5, xtc_10_6, xtc_10_7, xtc_10_8, xtc_10_9, xtc_10_10, xtc_10_11, xtc_10_12, xtc_10_13, xtc_10_14, xtc_10_15, xtc_10_16, xtc_10_17, xtc_10_18, xtc_10_19, xtc_10_20, xtc_10_21, xtc_10_22, xtc_10_23, xtc_10_24, xtc_10_25, eq_self, reduceIte, Nat.reduceEqDiff, Nat.reduceAdd, Nat.reduceSub, Nat.zero_ne_one, Nat.one_ne_zero, Nat.succ_ne_zero, Nat.reduceLeDiff, reduceCtorEq, and_true, true_and, and_false, false_and, true_implies, false_implies, implies_true, not_true_eq_false, not_false_eq_true, xN_0, xN_s, xlook_c, xlook_n, xb_nil, xb_cons, xlen, xl_cons, xst_def, xst2_def, xdl_nil, xdl_int, xdl_ref, xdl_long, xrv_some, xfit_int, xfit_long, xfit_ref, cat_int, cat_ref, cat_long, xret_int, xret_bool, or_true, true_or, Option.some.injEq, Value.int.injEq, Value.ref.injEq, Value.long.injEq, List.getElem?_cons_zero, List.getElem?_cons_succ, List.set_cons_zero, List.set_cons_succ, List.length_cons, List.length_nil, xup_xup, Classical.not_not, Nat.reduceLT, Nat.zero_lt_succ, m1, xup_id m1]
  refine cX10_attempt_7 m1 (dc := 1) (cc := 0) (cs := 0) (by omega) (by omega) (by omega) (Nat.le_of_ble_eq_true rfl) (v_noGood hM0 (by omega) hw h1 h2) (pureQ ?_)
  simp only [Option.toList_some, Option.toList_none, List.cons_append, List.nil_append, Nat.sub_zero, Nat.reduceSub, Nat.sub_self]
  refine xN_ok (t := tX10_attempt) rfl (T := AX10_attempt) aX10_attempt 2 _ _ _ _ _ _ _ ?_
  simp only [AX10_attempt, oX10_attempt_0, oX10_attempt_10, oX10_attempt_19, oX10_attempt_22, oX10_attempt_25, rX10_attempt, x_iconst, x_bipush, x_sipush, x_lconst, x_iload, x_lload, x_aload, x_istore, x_lstore, x_astore, x_iinc, x_iadd, x_isub, x_imul, x_iand, x_ior, x_ixor, x_ishl, x_ishr, x_ineg, x_ladd, x_lsub, x_lmul, x_ldiv, x_lrem, x_lcmp, x_i2l, x_l2i, x_dup, x_dup_x1, x_dup2, x_if_eq, x_if_ne, x_if_lt, x_if_ge, x_if_gt, x_if_le, x_ic_eq, x_ic_ne, x_ic_lt, x_ic_ge, x_ic_gt, x_ic_le, x_goto, x_ireturn, x_lreturn, x_return, x_getfield, x_putfield, x_iaload, x_baload, x_laload, x_aaload, x_iastore, x_bastore, x_lastore, x_aastore, x_arraylength, x_newarray, x_anewarray, x_new, x_iload_0, x_iload_1, x_iload_2, x_iload_3, x_lload_0, x_lload_1, x_lload_2, x_lload_3, x_aload_0, x_aload_1, x_aload_2, x_aload_3, x_istore_0, x_istore_1, x_istore_2, x_istore_3, x_lstore_0, x_lstore_1, x_lstore_2, x_lstore_3, x_astore_0, x_astore_1, x_astore_2, x_astore_3, q_bipush_m3, q_bipush_m2, q_bipush_6, q_bipush_7, q_bipush_9, q_bipush_10, q_bipush_24, q_bipush_30, q_bipush_48, q_bipush_100, q_sipush_300, q_sipush_1000, q_sipush_24001, q_l0, q_l1, xtc_0_0, xtc_0_1, xtc_0_2, xtc_0_3, xtc_0_4, xtc_0_5, xtc_1_0, xtc_1_1, xtc_1_2, xtc_2_0, xtc_2_1, xtc_3_0, xtc_4_0, xtc_4_1, xtc_4_2, xtc_4_3, xtc_4_4, xtc_4_5, xtc_4_6, xtc_4_7, xtc_4_8, xtc_4_9, xtc_4_10, xtc_4_11, xtc_4_12, xtc_5_0, xtc_5_1, xtc_5_2, xtc_5_3, xtc_5_4, xtc_5_5, xtc_5_6, xtc_6_0, xtc_6_1, xtc_6_2, xtc_7_0, xtc_7_1, xtc_8_0, xtc_8_1, xtc_8_2, xtc_8_3, xtc_9_0, xtc_9_1, xtc_9_2, xtc_9_3, xtc_9_4, xtc_9_5, xtc_9_6, xtc_9_7, xtc_9_8, xtc_9_9, xtc_10_0, xtc_10_1, xtc_10_2, xtc_10_3, xtc_10_4, xtc_10_5, xtc_10_6, xtc_10_7, xtc_10_8, xtc_10_9, xtc_10_10, xtc_10_11, xtc_10_12, xtc_10_13, xtc_10_14, xtc_10_15, xtc_10_16, xtc_10_17, xtc_10_18, xtc_10_19, xtc_10_20, xtc_10_21, xtc_10_22, xtc_10_23, xtc_10_24, xtc_10_25, eq_self, reduceIte, Nat.reduceEqDiff, Nat.reduceAdd, Nat.reduceSub, Nat.zero_ne_one, Nat.one_ne_zero, Nat.succ_ne_zero, Nat.reduceLeDiff, reduceCtorEq, and_true, true_and, and_false, false_and, true_implies, false_implies, implies_true, not_true_eq_false, not_false_eq_true, xN_0, xN_s, xlook_c, xlook_n, xb_nil, xb_cons, xlen, xl_cons, xst_def, xst2_def, xdl_nil, xdl_int, xdl_ref, xdl_long, xrv_some, xfit_int, xfit_long, xfit_ref, cat_int, cat_ref, cat_long, xret_int, xret_bool, or_true, true_or, Option.some.injEq, Value.int.injEq, Value.ref.injEq, Value.long.injEq, List.getElem?_cons_zero, List.getElem?_cons_succ, List.set_cons_zero, List.set_cons_succ, List.length_cons, List.length_nil, xup_xup, Classical.not_not, Nat.reduceLT, Nat.zero_lt_succ, I_b0]
  refine ⟨fun e => Or.inl (fun q => e q.1), fun e => ?_⟩
  refine cX10_attempt_16 (dc := 0) (cc := 0) (cs := 0) (by omega) (by omega) (by omega) (Nat.le_of_ble_eq_true rfl) (w_in l 0 _ _ (by omega) (by omega) (by omega) (by omega) (by omega) (by omega)) (pureQ ?_)
  simp only [Option.toList_some, Option.toList_none, List.cons_append, List.nil_append, Nat.sub_zero, Nat.reduceSub, Nat.sub_self]
  refine xN_ok (t := tX10_attempt) rfl (T := AX10_attempt) aX10_attempt 3 _ _ _ _ _ _ _ ?_
  simp only [AX10_attempt, oX10_attempt_0, oX10_attempt_10, oX10_attempt_19, oX10_attempt_22, oX10_attempt_25, rX10_attempt, x_iconst, x_bipush, x_sipush, x_lconst, x_iload, x_lload, x_aload, x_istore, x_lstore, x_astore, x_iinc, x_iadd, x_isub, x_imul, x_iand, x_ior, x_ixor, x_ishl, x_ishr, x_ineg, x_ladd, x_lsub, x_lmul, x_ldiv, x_lrem, x_lcmp, x_i2l, x_l2i, x_dup, x_dup_x1, x_dup2, x_if_eq, x_if_ne, x_if_lt, x_if_ge, x_if_gt, x_if_le, x_ic_eq, x_ic_ne, x_ic_lt, x_ic_ge, x_ic_gt, x_ic_le, x_goto, x_ireturn, x_lreturn, x_return, x_getfield, x_putfield, x_iaload, x_baload, x_laload, x_aaload, x_iastore, x_bastore, x_lastore, x_aastore, x_arraylength, x_newarray, x_anewarray, x_new, x_iload_0, x_iload_1, x_iload_2, x_iload_3, x_lload_0, x_lload_1, x_lload_2, x_lload_3, x_aload_0, x_aload_1, x_aload_2, x_aload_3, x_istore_0, x_istore_1, x_istore_2, x_istore_3, x_lstore_0, x_lstore_1, x_lstore_2, x_lstore_3, x_astore_0, x_astore_1, x_astore_2, x_astore_3, q_bipush_m3, q_bipush_m2, q_bipush_6, q_bipush_7, q_bipush_9, q_bipush_10, q_bipush_24, q_bipush_30, q_bipush_48, q_bipush_100, q_sipush_300, q_sipush_1000, q_sipush_24001, q_l0, q_l1, xtc_0_0, xtc_0_1, xtc_0_2, xtc_0_3, xtc_0_4, xtc_0_5, xtc_1_0, xtc_1_1, xtc_1_2, xtc_2_0, xtc_2_1, xtc_3_0, xtc_4_0, xtc_4_1, xtc_4_2, xtc_4_3, xtc_4_4, xtc_4_5, xtc_4_6, xtc_4_7, xtc_4_8, xtc_4_9, xtc_4_10, xtc_4_11, xtc_4_12, xtc_5_0, xtc_5_1, xtc_5_2, xtc_5_3, xtc_5_4, xtc_5_5, xtc_5_6, xtc_6_0, xtc_6_1, xtc_6_2, xtc_7_0, xtc_7_1, xtc_8_0, xtc_8_1, xtc_8_2, xtc_8_3, xtc_9_0, xtc_9_1, xtc_9_2, xtc_9_3, xtc_9_4, xtc_9_5, xtc_9_6, xtc_9_7, xtc_9_8, xtc_9_9, xtc_10_0, xtc_10_1, xtc_10_2, xtc_10_3, xtc_10_4, xtc_10_5, xtc_10_6, xtc_10_7, xtc_10_8, xtc_10_9, xtc_10_10, xtc_10_11, xtc_10_12, xtc_10_13, xtc_10_14, xtc_10_15, xtc_10_16, xtc_10_17, xtc_10_18, xtc_10_19, xtc_10_20, xtc_10_21, xtc_10_22, xtc_10_23, xtc_10_24, xtc_10_25, eq_self, reduceIte, Nat.reduceEqDiff, Nat.reduceAdd, Nat.reduceSub, Nat.zero_ne_one, Nat.one_ne_zero, Nat.succ_ne_zero, Nat.reduceLeDiff, reduceCtorEq, and_true, true_and, and_false, false_and, true_implies, false_implies, implies_true, not_true_eq_false, not_false_eq_true, xN_0, xN_s, xlook_c, xlook_n, xb_nil, xb_cons, xlen, xl_cons, xst_def, xst2_def, xdl_nil, xdl_int, xdl_ref, xdl_long, xrv_some, xfit_int, xfit_long, xfit_ref, cat_int, cat_ref, cat_long, xret_int, xret_bool, or_true, true_or, Option.some.injEq, Value.int.injEq, Value.ref.injEq, Value.long.injEq, List.getElem?_cons_zero, List.getElem?_cons_succ, List.set_cons_zero, List.set_cons_succ, List.length_cons, List.length_nil, xup_xup, Classical.not_not, Nat.reduceLT, Nat.zero_lt_succ, I_b0, m1, hA, xup_self, xup_ne, ne_eq, ra_len]
  simp (disch := omega) only [I_lt, I_le, I_eq, I_in, I_add, I_sub, I_mul, I_b0, I_b01, b_eq0, b_eq1, Classical.not_not, ra_get, ra_set, ra_len, Int.toNat_natCast, eq_self, true_and, and_true, ne_eq, not_false_eq_true, not_true_eq_false]
  exact ⟨fun e2 => ⟨by omega, by omega, Or.inr ⟨e, e2⟩⟩, fun e2 => Or.inl (fun q => e2 q.2)⟩
theorem v_has {s : Nat} {a : Int} (hs : s < 1024) (h1 : 0 ≤ a) (h2 : a < 10) : xM l tX10_has d 0 0 [.int (I s), .int (I a)] n ws (fun r n' ws' => r = some (.int (I (if s.testBit a.toNat = true then 1 else 0))) ∧ n' = n ∧ ws' = ws) := by
  obtain ⟨a, rfl⟩ := Int.eq_ofNat_of_zero_le h1
  have e1 := I_bit s hs a (by omega)
  refine xM.of (by decide) (Nat.le_of_ble_eq_true rfl) ?_
  simp only [lv_args, cat_int, cat_ref, cat_long, reduceIte, Nat.reduceEqDiff, Nat.reduceAdd, Nat.one_ne_zero, Nat.reduceLeDiff]
  refine xN_ok (t := tX10_has) rfl (T := AX10_has) aX10_has 4 _ _ _ _ _ _ _ ?_
  simp only [AX10_has, oX10_has_0, oX10_has_13, oX10_has_14, rX10_has, x_iconst, x_bipush, x_sipush, x_lconst, x_iload, x_lload, x_aload, x_istore, x_lstore, x_astore, x_iinc, x_iadd, x_isub, x_imul, x_iand, x_ior, x_ixor, x_ishl, x_ishr, x_ineg, x_ladd, x_lsub, x_lmul, x_ldiv, x_lrem, x_lcmp, x_i2l, x_l2i, x_dup, x_dup_x1, x_dup2, x_if_eq, x_if_ne, x_if_lt, x_if_ge, x_if_gt, x_if_le, x_ic_eq, x_ic_ne, x_ic_lt, x_ic_ge, x_ic_gt, x_ic_le, x_goto, x_ireturn, x_lreturn, x_return, x_getfield, x_putfield, x_iaload, x_baload, x_laload, x_aaload, x_iastore, x_bastore, x_lastore, x_aastore, x_arraylength, x_newarray, x_anewarray, x_new, x_iload_0, x_iload_1, x_iload_2, x_iload_3, x_lload_0, x_lload_1, x_lload_2, x_lload_3, x_aload_0, x_aload_1, x_aload_2, x_aload_3, x_istore_0, x_istore_1, x_istore_2, x_istore_3, x_lstore_0, x_lstore_1, x_lstore_2, x_lstore_3, x_astore_0, x_astore_1, x_astore_2, x_astore_3, q_bipush_m3, q_bipush_m2, q_bipush_6, q_bipush_7, q_bipush_9, q_bipush_10, q_bipush_24, q_bipush_30, q_bipush_48, q_bipush_100, q_sipush_300, q_sipush_1000, q_sipush_24001, q_l0, q_l1, xtc_0_0, xtc_0_1, xtc_0_2, xtc_0_3, xtc_0_4, xtc_0_5, xtc_1_0, xtc_1_1, xtc_1_2, xtc_2_0, xtc_2_1, xtc_3_0, xtc_4_0, xtc_4_1, xtc_4_2, xtc_4_3, xtc_4_4, xtc_4_5, xtc_4_6, xtc_4_7, xtc_4_8, xtc_4_9, xtc_4_10, xtc_4_11, xtc_4_12, xtc_5_0, xtc_5_1, xtc_5_2, xtc_5_3, xtc_5_4, xtc_5_5, xtc_5_6, xtc_6_0, xtc_6_1, xtc_6_2, xtc_7_0, xtc_7_1, xtc_8_0, xtc_8_1, xtc_8_2, xtc_8_3, xtc_9_0, xtc_9_1, xtc_9_2, xtc_9_3, xtc_9_4, xtc_9_5, xtc_9_6, xtc_9_7, xtc_9_8, xtc_9_9, xtc_10_0, xtc_10_1, xtc_10_2, xtc_10_3, xtc_10_4, xtc_10_5, xtc_10_6, xtc_10_7, xtc_10_8, xtc_10_9, xtc_10_10, xtc_10_11, xtc_10_12, xtc_10_13, xtc_10_14, xtc_10_15, xtc_10_16, xtc_10_17, xtc_10_18, xtc_10_19, xtc_10_20, xtc_10_21, xtc_10_22, xtc_10_23, xtc_10_24, xtc_10_25, eq_self, reduceIte, Nat.reduceEqDiff, Nat.reduceAdd, Nat.reduceSub, Nat.zero_ne_one, Nat.one_ne_zero, Nat.succ_ne_zero, Nat.reduceLeDiff, reduceCtorEq, and_true, true_and, and_false, false_and, true_implies, false_implies, implies_true, not_true_eq_false, not_false_eq_true, xN_0, xN_s, xlook_c, xlook_n, xb_nil, xb_cons, xlen, xl_cons, xst_def, xst2_def, xdl_nil, xdl_int, xdl_ref, xdl_long, xrv_some, xfit_int, xfit_long, xfit_ref, cat_int, cat_ref, cat_long, xret_int, xret_bool, or_true, true_or, Option.some.injEq, Value.int.injEq, Value.ref.injEq, Value.long.injEq, List.getElem?_cons_zero, List.getElem?_cons_succ, List.set_cons_zero, List.set_cons_succ, List.length_cons, List.length_nil, xup_xup, Classical.not_not, Nat.reduceLT, Nat.zero_lt_succ, e1]
  simp only [Int.toNat_natCast]
  by_cases ha : s.testBit a = true <;> simp [ha] <;> decide
end MOD
end
section
section MOD2
variable {l : Launch} {d n : Nat} {ws : xW} {S : St} {bw bs : Int}
theorem v_cut (hM : ModAt ws S bw bs) (hw : WF S) (hd : 1 ≤ d) : xM l tX10_cut d 0 0 [.ref 121] n ws (fun r n' ws' => r = some (.int (I (fS (cutB S) (2 ^ S.nn) 0))) ∧ n' = n ∧ ws' = ws) := by
  obtain ⟨m1, m2, m3, m4, m5, m6, m7, m8, m9⟩ := hM
  have hb : S.nn ≤ 10 := hw.1
  have hba : S.na ≤ 24 := hw.2.1
  have hbg : S.ng ≤ 6 := hw.2.2.1
  have hp := pow_le10 hb
  generalize hQ : (fun (r : Option Value) (n' : Nat) (ws' : xW) => r = some (.int (I (fS (cutB S) (2 ^ S.nn) 0))) ∧ n' = n ∧ ws' = ws) = Q
  refine xM.of (by decide) (Nat.le_of_ble_eq_true rfl) ?_
  simp only [lv_args, cat_int, cat_ref, cat_long, reduceIte, Nat.reduceEqDiff, Nat.reduceAdd, Nat.one_ne_zero, Nat.reduceLeDiff]
  have gl : ∀ (s : Nat) (R : Int), s < 1024 → xX l tX10_cut d 0 0 Q 0 0 141 [(0, .ref 121), (1, .int (I s)), (2, .int (I R)), (3, .int (I (demOut S s)))] [] n ws → ∀ j i : Nat, i + j = S.ng → xX l tX10_cut d 0 0 Q 0 0 84 [(0, .ref 121), (1, .int (I s)), (2, .int (I R)), (3, .int (I (sm (fun g => if outs s (S.2 4 g) (S.2 5 g) = true then S.2 6 g else 0) i))), (4, .int (I i))] [] n ws := by
    intro s R hs hk j
    induction j with
    | zero =>
      intro i hi
      have e : i = S.ng := by omega
      refine xL_ok (t := tX10_cut) rfl (ops := oX10_cut_84) (by decide +kernel) (T := [(0, oX10_cut_0), (7, oX10_cut_7), (24, oX10_cut_24), (44, oX10_cut_44), (58, oX10_cut_58), (73, oX10_cut_73), (74, oX10_cut_74), (81, oX10_cut_81), (104, oX10_cut_104), (118, oX10_cut_118), (133, oX10_cut_133), (134, oX10_cut_134), (141, oX10_cut_141), (148, oX10_cut_148), (154, oX10_cut_154)]) (by decide +kernel) 0 ?_
      simp only [oX10_cut_0, oX10_cut_7, oX10_cut_24, oX10_cut_44, oX10_cut_58, oX10_cut_73, oX10_cut_74, oX10_cut_81, oX10_cut_104, oX10_cut_118, oX10_cut_133, oX10_cut_134, oX10_cut_141, oX10_cut_148, oX10_cut_154, oX10_cut_84, rX10_cut, x_iconst, x_bipush, x_sipush, x_lconst, x_iload, x_lload, x_aload, x_istore, x_lstore, x_astore, x_iinc, x_iadd, x_isub, x_imul, x_iand, x_ior, x_ixor, x_ishl, x_ishr, x_ineg, x_ladd, x_lsub, x_lmul, x_ldiv, x_lrem, x_lcmp, x_i2l, x_l2i, x_dup, x_dup_x1, x_dup2, x_if_eq, x_if_ne, x_if_lt, x_if_ge, x_if_gt, x_if_le, x_ic_eq, x_ic_ne, x_ic_lt, x_ic_ge, x_ic_gt, x_ic_le, x_goto, x_ireturn, x_lreturn, x_return, x_getfield, x_putfield, x_iaload, x_baload, x_laload, x_aaload, x_iastore, x_bastore, x_lastore, x_aastore, x_arraylength, x_newarray, x_anewarray, x_new, x_iload_0, x_iload_1, x_iload_2, x_iload_3, x_lload_0, x_lload_1, x_lload_2, x_lload_3, x_aload_0, x_aload_1, x_aload_2, x_aload_3, x_istore_0, x_istore_1, x_istore_2, x_istore_3, x_lstore_0, x_lstore_1, x_lstore_2, x_lstore_3, x_astore_0, x_astore_1, x_astore_2, x_astore_3, q_bipush_m3, q_bipush_m2, q_bipush_6, q_bipush_7, q_bipush_9, q_bipush_10, q_bipush_24, q_bipush_30, q_bipush_48, q_bipush_100, q_sipush_300, q_sipush_1000, q_sipush_24001, q_l0, q_l1, xtc_0_0, xtc_0_1, xtc_0_2, xtc_0_3, xtc_0_4, xtc_0_5, xtc_1_0, xtc_1_1, xtc_1_2, xtc_2_0, xtc_2_1, xtc_3_0, xtc_4_0, xtc_4_1, xtc_4_2, xtc_4_3, xtc_4_4, xtc_4_5, xtc_4_6, xtc_4_7, xtc_4_8, xtc_4_9, xtc_4_10, xtc_4_11, xtc_4_12, xtc_5_0, xtc_5_1, xtc_5_2, xtc_5_3, xtc_5_4, xtc_5_5, xtc_5_6, xtc_6_0, xtc_6_1, xtc_6_2, xtc_7_0, xtc_7_1, xtc_8_0, xtc_8_1, xtc_8_2, xtc_8_3, xtc_9_0, xtc_9_1, xtc_9_2, xtc_9_3, xtc_9_4, xtc_9_5, xtc_9_6, xtc_9_7, xtc_9_8, xtc_9_9, xtc_10_0, xtc_10_1, xtc_10_2, xtc_10_3, xtc_10_4, xtc_10_5, xtc_10_6, xtc_10_7, xtc_10_8, xtc_10_9, xtc_10_10, xtc_10_11, xtc_10_12, xtc_10_13, xtc_10_14, xtc_10_15, xtc_10_16, xtc_10_17, xtc_10_18, xtc_10_19, xtc_10_20, xtc_10_21, xtc_10_22, xtc_10_23, xtc_10_24, xtc_10_25, eq_self, reduceIte, Nat.reduceEqDiff, Nat.reduceAdd, Nat.reduceSub, Nat.zero_ne_one, Nat.one_ne_zero, Nat.succ_ne_zero, Nat.reduceLeDiff, reduceCtorEq, and_true, true_and, and_false, false_and, true_implies, false_implies, implies_true, not_true_eq_false, not_false_eq_true, xN_0, xN_s, xlook_c, xlook_n, xb_nil, xb_cons, xlen, xl_cons, xst_def, xst2_def, xdl_nil, xdl_int, xdl_ref, xdl_long, xrv_some, xfit_int, xfit_long, xfit_ref, cat_int, cat_ref, cat_long, xret_int, xret_bool, or_true, true_or, Option.some.injEq, Value.int.injEq, Value.ref.injEq, Value.long.injEq, List.getElem?_cons_zero, List.getElem?_cons_succ, List.set_cons_zero, List.set_cons_succ, List.length_cons, List.length_nil, xup_xup, Classical.not_not, Nat.reduceLT, Nat.zero_lt_succ, m1, m6, ra_len]
      simp (disch := omega) only [I_lt, I_le, I_eq, I_in, I_add, I_sub, I_mul, I_b0, I_b01, b_eq0, b_eq1, Classical.not_not, ra_get, ra_set, ra_len, Int.toNat_natCast, eq_self, true_and, and_true, ne_eq, not_false_eq_true, not_true_eq_false]
      refine ⟨fun _ => ?_, fun h => absurd h (by omega)⟩
      exact xX.loc _ (by simp [demOut, e]) hk
    | succ j ih =>
      intro i hi
      obtain ⟨p1, p2, p3, p4, p5, p6, p7, -, -⟩ := hw.2.2.2.2 i (by omega)
      refine xL_ok (t := tX10_cut) rfl (ops := oX10_cut_84) (by decide +kernel) (T := [(0, oX10_cut_0), (7, oX10_cut_7), (24, oX10_cut_24), (44, oX10_cut_44), (58, oX10_cut_58), (73, oX10_cut_73), (74, oX10_cut_74), (81, oX10_cut_81), (104, oX10_cut_104), (118, oX10_cut_118), (133, oX10_cut_133), (134, oX10_cut_134), (141, oX10_cut_141), (148, oX10_cut_148), (154, oX10_cut_154)]) (by decide +kernel) 0 ?_
      simp only [oX10_cut_0, oX10_cut_7, oX10_cut_24, oX10_cut_44, oX10_cut_58, oX10_cut_73, oX10_cut_74, oX10_cut_81, oX10_cut_104, oX10_cut_118, oX10_cut_133, oX10_cut_134, oX10_cut_141, oX10_cut_148, oX10_cut_154, oX10_cut_84, rX10_cut, x_iconst, x_bipush, x_sipush, x_lconst, x_iload, x_lload, x_aload, x_istore, x_lstore, x_astore, x_iinc, x_iadd, x_isub, x_imul, x_iand, x_ior, x_ixor, x_ishl, x_ishr, x_ineg, x_ladd, x_lsub, x_lmul, x_ldiv, x_lrem, x_lcmp, x_i2l, x_l2i, x_dup, x_dup_x1, x_dup2, x_if_eq, x_if_ne, x_if_lt, x_if_ge, x_if_gt, x_if_le, x_ic_eq, x_ic_ne, x_ic_lt, x_ic_ge, x_ic_gt, x_ic_le, x_goto, x_ireturn, x_lreturn, x_return, x_getfield, x_putfield, x_iaload, x_baload, x_laload, x_aaload, x_iastore, x_bastore, x_lastore, x_aastore, x_arraylength, x_newarray, x_anewarray, x_new, x_iload_0, x_iload_1, x_iload_2, x_iload_3, x_lload_0, x_lload_1, x_lload_2, x_lload_3, x_aload_0, x_aload_1, x_aload_2, x_aload_3, x_istore_0, x_istore_1, x_istore_2, x_istore_3, x_lstore_0, x_lstore_1, x_lstore_2, x_lstore_3, x_astore_0, x_astore_1, x_astore_2, x_astore_3, q_bipush_m3, q_bipush_m2, q_bipush_6, q_bipush_7, q_bipush_9, q_bipush_10, q_bipush_24, q_bipush_30, q_bipush_48, q_bipush_100, q_sipush_300, q_sipush_1000, q_sipush_24001, q_l0, q_l1, xtc_0_0, xtc_0_1, xtc_0_2, xtc_0_3, xtc_0_4, xtc_0_5, xtc_1_0, xtc_1_1, xtc_1_2, xtc_2_0, xtc_2_1, xtc_3_0, xtc_4_0, xtc_4_1, xtc_4_2, xtc_4_3, xtc_4_4, xtc_4_5, xtc_4_6, xtc_4_7, xtc_4_8, xtc_4_9, xtc_4_10, xtc_4_11, xtc_4_12, xtc_5_0, xtc_5_1, xtc_5_2, xtc_5_3, xtc_5_4, xtc_5_5, xtc_5_6, xtc_6_0, xtc_6_1, xtc_6_2, xtc_7_0, xtc_7_1, xtc_8_0, xtc_8_1, xtc_8_2, xtc_8_3, xtc_9_0, xtc_9_1, xtc_9_2, xtc_9_3, xtc_9_4, xtc_9_5, xtc_9_6, xtc_9_7, xtc_9_8, xtc_9_9, xtc_10_0, xtc_10_1, xtc_10_2, xtc_10_3, xtc_10_4, xtc_10_5, xtc_10_6, xtc_10_7, xtc_10_8, xtc_10_9, xtc_10_10, xtc_10_11, xtc_10_12, xtc_10_13, xtc_10_14, xtc_10_15, xtc_10_16, xtc_10_17, xtc_10_18, xtc_10_19, xtc_10_20, xtc_10_21, xtc_10_22, xtc_10_23, xtc_10_24, xtc_10_25, eq_self, reduceIte, Nat.reduceEqDiff, Nat.reduceAdd, Nat.reduceSub, Nat.zero_ne_one, Nat.one_ne_zero, Nat.succ_ne_zero, Nat.reduceLeDiff, reduceCtorEq, and_true, true_and, and_false, false_and, true_implies, false_implies, implies_true, not_true_eq_false, not_false_eq_true, xN_0, xN_s, xlook_c, xlook_n, xb_nil, xb_cons, xlen, xl_cons, xst_def, xst2_def, xdl_nil, xdl_int, xdl_ref, xdl_long, xrv_some, xfit_int, xfit_long, xfit_ref, cat_int, cat_ref, cat_long, xret_int, xret_bool, or_true, true_or, Option.some.injEq, Value.int.injEq, Value.ref.injEq, Value.long.injEq, List.getElem?_cons_zero, List.getElem?_cons_succ, List.set_cons_zero, List.set_cons_succ, List.length_cons, List.length_nil, xup_xup, Classical.not_not, Nat.reduceLT, Nat.zero_lt_succ, m1, m6, ra_len]
      simp (disch := omega) only [I_lt, I_le, I_eq, I_in, I_add, I_sub, I_mul, I_b0, I_b01, b_eq0, b_eq1, Classical.not_not, ra_get, ra_set, ra_len, Int.toNat_natCast, eq_self, true_and, and_true, ne_eq, not_false_eq_true, not_true_eq_false]
      refine ⟨fun h => absurd h (by omega), fun _ => ⟨by omega, ?_⟩⟩
      refine cX10_cut_101 (dc := 0) (cc := 0) (cs := 0) (by omega) (by omega) (by omega) (Nat.le_of_ble_eq_true rfl) (v_has hs p1 (by omega)) (pureQ ?_)
      simp only [Option.toList_some, Option.toList_none, List.cons_append, List.nil_append, Nat.sub_zero, Nat.reduceSub, Nat.sub_self]
      refine xN_ok (t := tX10_cut) rfl (T := [(0, oX10_cut_0), (7, oX10_cut_7), (24, oX10_cut_24), (44, oX10_cut_44), (58, oX10_cut_58), (73, oX10_cut_73), (74, oX10_cut_74), (81, oX10_cut_81), (104, oX10_cut_104), (118, oX10_cut_118), (133, oX10_cut_133), (134, oX10_cut_134), (141, oX10_cut_141), (148, oX10_cut_148), (154, oX10_cut_154)]) (by decide +kernel) 4 _ _ _ _ _ _ _ ?_
      simp only [oX10_cut_0, oX10_cut_7, oX10_cut_24, oX10_cut_44, oX10_cut_58, oX10_cut_73, oX10_cut_74, oX10_cut_81, oX10_cut_104, oX10_cut_118, oX10_cut_133, oX10_cut_134, oX10_cut_141, oX10_cut_148, oX10_cut_154, rX10_cut, x_iconst, x_bipush, x_sipush, x_lconst, x_iload, x_lload, x_aload, x_istore, x_lstore, x_astore, x_iinc, x_iadd, x_isub, x_imul, x_iand, x_ior, x_ixor, x_ishl, x_ishr, x_ineg, x_ladd, x_lsub, x_lmul, x_ldiv, x_lrem, x_lcmp, x_i2l, x_l2i, x_dup, x_dup_x1, x_dup2, x_if_eq, x_if_ne, x_if_lt, x_if_ge, x_if_gt, x_if_le, x_ic_eq, x_ic_ne, x_ic_lt, x_ic_ge, x_ic_gt, x_ic_le, x_goto, x_ireturn, x_lreturn, x_return, x_getfield, x_putfield, x_iaload, x_baload, x_laload, x_aaload, x_iastore, x_bastore, x_lastore, x_aastore, x_arraylength, x_newarray, x_anewarray, x_new, x_iload_0, x_iload_1, x_iload_2, x_iload_3, x_lload_0, x_lload_1, x_lload_2, x_lload_3, x_aload_0, x_aload_1, x_aload_2, x_aload_3, x_istore_0, x_istore_1, x_istore_2, x_istore_3, x_lstore_0, x_lstore_1, x_lstore_2, x_lstore_3, x_astore_0, x_astore_1, x_astore_2, x_astore_3, q_bipush_m3, q_bipush_m2, q_bipush_6, q_bipush_7, q_bipush_9, q_bipush_10, q_bipush_24, q_bipush_30, q_bipush_48, q_bipush_100, q_sipush_300, q_sipush_1000, q_sipush_24001, q_l0, q_l1, xtc_0_0, xtc_0_1, xtc_0_2, xtc_0_3, xtc_0_4, xtc_0_5, xtc_1_0, xtc_1_1, xtc_1_2, xtc_2_0, xtc_2_1, xtc_3_0, xtc_4_0, xtc_4_1, xtc_4_2, xtc_4_3, xtc_4_4, xtc_4_5, xtc_4_6, xtc_4_7, xtc_4_8, xtc_4_9, xtc_4_10, xtc_4_11, xtc_4_12, xtc_5_0, xtc_5_1, xtc_5_2, xtc_5_3, xtc_5_4, xtc_5_5, xtc_5_6, xtc_6_0, xtc_6_1, xtc_6_2, xtc_7_0, xtc_7_1, xtc_8_0, xtc_8_1, xtc_8_2, xtc_8_3, xtc_9_0, xtc_9_1, xtc_9_2, xtc_9_3, xtc_9_4, xtc_9_5, xtc_9_6, xtc_9_7, xtc_9_8, xtc_9_9, xtc_10_0, xtc_10_1, xtc_10_2, xtc_10_3, xtc_10_4, xtc_10_5, xtc_10_6, xtc_10_7, xtc_10_8, xtc_10_9, xtc_10_10, xtc_10_11, xtc_10_12, xtc_10_13, xtc_10_14, xtc_10_15, xtc_10_16, xtc_10_17, xtc_10_18, xtc_10_19, xtc_10_20, xtc_10_21, xtc_10_22, xtc_10_23, xtc_10_24, xtc_10_25, eq_self, reduceIte, Nat.reduceEqDiff, Nat.reduceAdd, Nat.reduceSub, Nat.zero_ne_one, Nat.one_ne_zero, Nat.succ_ne_zero, Nat.reduceLeDiff, reduceCtorEq, and_true, true_and, and_false, false_and, true_implies, false_implies, implies_true, not_true_eq_false, not_false_eq_true, xN_0, xN_s, xlook_c, xlook_n, xb_nil, xb_cons, xlen, xl_cons, xst_def, xst2_def, xdl_nil, xdl_int, xdl_ref, xdl_long, xrv_some, xfit_int, xfit_long, xfit_ref, cat_int, cat_ref, cat_long, xret_int, xret_bool, or_true, true_or, Option.some.injEq, Value.int.injEq, Value.ref.injEq, Value.long.injEq, List.getElem?_cons_zero, List.getElem?_cons_succ, List.set_cons_zero, List.set_cons_succ, List.length_cons, List.length_nil, xup_xup, Classical.not_not, Nat.reduceLT, Nat.zero_lt_succ, m1, m7, ra_len]
      simp (disch := omega) only [I_lt, I_le, I_eq, I_in, I_add, I_sub, I_mul, I_b0, I_b01, b_eq0, b_eq1, Classical.not_not, ra_get, ra_set, ra_len, Int.toNat_natCast, eq_self, true_and, and_true, ne_eq, not_false_eq_true, not_true_eq_false]
      refine ⟨fun h => xX.loc _ (by simp [sm, outs, h]) (ih (i + 1) (by omega)), fun h => ⟨by omega, ?_⟩⟩
      refine cX10_cut_115 (dc := 0) (cc := 0) (cs := 0) (by omega) (by omega) (by omega) (Nat.le_of_ble_eq_true rfl) (v_has hs p3 (by omega)) (pureQ ?_)
      simp only [Option.toList_some, Option.toList_none, List.cons_append, List.nil_append, Nat.sub_zero, Nat.reduceSub, Nat.sub_self]
      refine xN_ok (t := tX10_cut) rfl (T := [(0, oX10_cut_0), (7, oX10_cut_7), (24, oX10_cut_24), (44, oX10_cut_44), (58, oX10_cut_58), (73, oX10_cut_73), (74, oX10_cut_74), (81, oX10_cut_81), (104, oX10_cut_104), (118, oX10_cut_118), (133, oX10_cut_133), (134, oX10_cut_134), (141, oX10_cut_141), (148, oX10_cut_148), (154, oX10_cut_154)]) (by decide +kernel) 4 _ _ _ _ _ _ _ ?_
      simp only [oX10_cut_0, oX10_cut_7, oX10_cut_24, oX10_cut_44, oX10_cut_58, oX10_cut_73, oX10_cut_74, oX10_cut_81, oX10_cut_104, oX10_cut_118, oX10_cut_133, oX10_cut_134, oX10_cut_141, oX10_cut_148, oX10_cut_154, rX10_cut, x_iconst, x_bipush, x_sipush, x_lconst, x_iload, x_lload, x_aload, x_istore, x_lstore, x_astore, x_iinc, x_iadd, x_isub, x_imul, x_iand, x_ior, x_ixor, x_ishl, x_ishr, x_ineg, x_ladd, x_lsub, x_lmul, x_ldiv, x_lrem, x_lcmp, x_i2l, x_l2i, x_dup, x_dup_x1, x_dup2, x_if_eq, x_if_ne, x_if_lt, x_if_ge, x_if_gt, x_if_le, x_ic_eq, x_ic_ne, x_ic_lt, x_ic_ge, x_ic_gt, x_ic_le, x_goto, x_ireturn, x_lreturn, x_return, x_getfield, x_putfield, x_iaload, x_baload, x_laload, x_aaload, x_iastore, x_bastore, x_lastore, x_aastore, x_arraylength, x_newarray, x_anewarray, x_new, x_iload_0, x_iload_1, x_iload_2, x_iload_3, x_lload_0, x_lload_1, x_lload_2, x_lload_3, x_aload_0, x_aload_1, x_aload_2, x_aload_3, x_istore_0, x_istore_1, x_istore_2, x_istore_3, x_lstore_0, x_lstore_1, x_lstore_2, x_lstore_3, x_astore_0, x_astore_1, x_astore_2, x_astore_3, q_bipush_m3, q_bipush_m2, q_bipush_6, q_bipush_7, q_bipush_9, q_bipush_10, q_bipush_24, q_bipush_30, q_bipush_48, q_bipush_100, q_sipush_300, q_sipush_1000, q_sipush_24001, q_l0, q_l1, xtc_0_0, xtc_0_1, xtc_0_2, xtc_0_3, xtc_0_4, xtc_0_5, xtc_1_0, xtc_1_1, xtc_1_2, xtc_2_0, xtc_2_1, xtc_3_0, xtc_4_0, xtc_4_1, xtc_4_2, xtc_4_3, xtc_4_4, xtc_4_5, xtc_4_6, xtc_4_7, xtc_4_8, xtc_4_9, xtc_4_10, xtc_4_11, xtc_4_12, xtc_5_0, xtc_5_1, xtc_5_2, xtc_5_3, xtc_5_4, xtc_5_5, xtc_5_6, xtc_6_0, xtc_6_1, xtc_6_2, xtc_7_0, xtc_7_1, xtc_8_0, xtc_8_1, xtc_8_2, xtc_8_3, xtc_9_0, xtc_9_1, xtc_9_2, xtc_9_3, xtc_9_4, xtc_9_5, xtc_9_6, xtc_9_7, xtc_9_8, xtc_9_9, xtc_10_0, xtc_10_1, xtc_10_2, xtc_10_3, xtc_10_4, xtc_10_5, xtc_10_6, xtc_10_7, xtc_10_8, xtc_10_9, xtc_10_10, xtc_10_11, xtc_10_12, xtc_10_13, xtc_10_14, xtc_10_15, xtc_10_16, xtc_10_17, xtc_10_18, xtc_10_19, xtc_10_20, xtc_10_21, xtc_10_22, xtc_10_23, xtc_10_24, xtc_10_25, eq_self, reduceIte, Nat.reduceEqDiff, Nat.reduceAdd, Nat.reduceSub, Nat.zero_ne_one, Nat.one_ne_zero, Nat.succ_ne_zero, Nat.reduceLeDiff, reduceCtorEq, and_true, true_and, and_false, false_and, true_implies, false_implies, implies_true, not_true_eq_false, not_false_eq_true, xN_0, xN_s, xlook_c, xlook_n, xb_nil, xb_cons, xlen, xl_cons, xst_def, xst2_def, xdl_nil, xdl_int, xdl_ref, xdl_long, xrv_some, xfit_int, xfit_long, xfit_ref, cat_int, cat_ref, cat_long, xret_int, xret_bool, or_true, true_or, Option.some.injEq, Value.int.injEq, Value.ref.injEq, Value.long.injEq, List.getElem?_cons_zero, List.getElem?_cons_succ, List.set_cons_zero, List.set_cons_succ, List.length_cons, List.length_nil, xup_xup, Classical.not_not, Nat.reduceLT, Nat.zero_lt_succ, m1, m8, ra_len]
      simp (disch := omega) only [I_lt, I_le, I_eq, I_in, I_add, I_sub, I_mul, I_b0, I_b01, b_eq0, b_eq1, Classical.not_not, ra_get, ra_set, ra_len, Int.toNat_natCast, eq_self, true_and, and_true, ne_eq, not_false_eq_true, not_true_eq_false]
      refine ⟨fun h2 => xX.loc _ (by simp [sm, outs, h, h2]) (ih (i + 1) (by omega)), fun h2 => ⟨by omega, xX.loc _ (by simp [sm, outs, h, h2]) (ih (i + 1) (by omega))⟩⟩
  have al : ∀ (s : Nat), s < 1024 → xX l tX10_cut d 0 0 Q 0 0 141 [(0, .ref 121), (1, .int (I s)), (2, .int (I (capOut S s))), (3, .int (I (demOut S s)))] [] n ws → ∀ j i : Nat, i + j = S.na → xX l tX10_cut d 0 0 Q 0 0 24 [(0, .ref 121), (1, .int (I s)), (2, .int (I (sm (fun i => if outs s (S.2 0 i) (S.2 1 i) = true then S.2 2 i else 0) i))), (3, .int (I 0)), (4, .int (I i))] [] n ws := by
    intro s hs hk j
    induction j with
    | zero =>
      intro i hi
      have e : i = S.na := by omega
      refine xL_ok (t := tX10_cut) rfl (ops := oX10_cut_24) (by decide +kernel) (T := [(0, oX10_cut_0), (7, oX10_cut_7), (44, oX10_cut_44), (58, oX10_cut_58), (73, oX10_cut_73), (74, oX10_cut_74), (81, oX10_cut_81), (104, oX10_cut_104), (118, oX10_cut_118), (133, oX10_cut_133), (134, oX10_cut_134), (141, oX10_cut_141), (148, oX10_cut_148), (154, oX10_cut_154)]) (by decide +kernel) 1 ?_
      simp only [oX10_cut_0, oX10_cut_7, oX10_cut_44, oX10_cut_58, oX10_cut_73, oX10_cut_74, oX10_cut_81, oX10_cut_104, oX10_cut_118, oX10_cut_133, oX10_cut_134, oX10_cut_141, oX10_cut_148, oX10_cut_154, oX10_cut_24, rX10_cut, x_iconst, x_bipush, x_sipush, x_lconst, x_iload, x_lload, x_aload, x_istore, x_lstore, x_astore, x_iinc, x_iadd, x_isub, x_imul, x_iand, x_ior, x_ixor, x_ishl, x_ishr, x_ineg, x_ladd, x_lsub, x_lmul, x_ldiv, x_lrem, x_lcmp, x_i2l, x_l2i, x_dup, x_dup_x1, x_dup2, x_if_eq, x_if_ne, x_if_lt, x_if_ge, x_if_gt, x_if_le, x_ic_eq, x_ic_ne, x_ic_lt, x_ic_ge, x_ic_gt, x_ic_le, x_goto, x_ireturn, x_lreturn, x_return, x_getfield, x_putfield, x_iaload, x_baload, x_laload, x_aaload, x_iastore, x_bastore, x_lastore, x_aastore, x_arraylength, x_newarray, x_anewarray, x_new, x_iload_0, x_iload_1, x_iload_2, x_iload_3, x_lload_0, x_lload_1, x_lload_2, x_lload_3, x_aload_0, x_aload_1, x_aload_2, x_aload_3, x_istore_0, x_istore_1, x_istore_2, x_istore_3, x_lstore_0, x_lstore_1, x_lstore_2, x_lstore_3, x_astore_0, x_astore_1, x_astore_2, x_astore_3, q_bipush_m3, q_bipush_m2, q_bipush_6, q_bipush_7, q_bipush_9, q_bipush_10, q_bipush_24, q_bipush_30, q_bipush_48, q_bipush_100, q_sipush_300, q_sipush_1000, q_sipush_24001, q_l0, q_l1, xtc_0_0, xtc_0_1, xtc_0_2, xtc_0_3, xtc_0_4, xtc_0_5, xtc_1_0, xtc_1_1, xtc_1_2, xtc_2_0, xtc_2_1, xtc_3_0, xtc_4_0, xtc_4_1, xtc_4_2, xtc_4_3, xtc_4_4, xtc_4_5, xtc_4_6, xtc_4_7, xtc_4_8, xtc_4_9, xtc_4_10, xtc_4_11, xtc_4_12, xtc_5_0, xtc_5_1, xtc_5_2, xtc_5_3, xtc_5_4, xtc_5_5, xtc_5_6, xtc_6_0, xtc_6_1, xtc_6_2, xtc_7_0, xtc_7_1, xtc_8_0, xtc_8_1, xtc_8_2, xtc_8_3, xtc_9_0, xtc_9_1, xtc_9_2, xtc_9_3, xtc_9_4, xtc_9_5, xtc_9_6, xtc_9_7, xtc_9_8, xtc_9_9, xtc_10_0, xtc_10_1, xtc_10_2, xtc_10_3, xtc_10_4, xtc_10_5, xtc_10_6, xtc_10_7, xtc_10_8, xtc_10_9, xtc_10_10, xtc_10_11, xtc_10_12, xtc_10_13, xtc_10_14, xtc_10_15, xtc_10_16, xtc_10_17, xtc_10_18, xtc_10_19, xtc_10_20, xtc_10_21, xtc_10_22, xtc_10_23, xtc_10_24, xtc_10_25, eq_self, reduceIte, Nat.reduceEqDiff, Nat.reduceAdd, Nat.reduceSub, Nat.zero_ne_one, Nat.one_ne_zero, Nat.succ_ne_zero, Nat.reduceLeDiff, reduceCtorEq, and_true, true_and, and_false, false_and, true_implies, false_implies, implies_true, not_true_eq_false, not_false_eq_true, xN_0, xN_s, xlook_c, xlook_n, xb_nil, xb_cons, xlen, xl_cons, xst_def, xst2_def, xdl_nil, xdl_int, xdl_ref, xdl_long, xrv_some, xfit_int, xfit_long, xfit_ref, cat_int, cat_ref, cat_long, xret_int, xret_bool, or_true, true_or, Option.some.injEq, Value.int.injEq, Value.ref.injEq, Value.long.injEq, List.getElem?_cons_zero, List.getElem?_cons_succ, List.set_cons_zero, List.set_cons_succ, List.length_cons, List.length_nil, xup_xup, Classical.not_not, Nat.reduceLT, Nat.zero_lt_succ, m1, m2, ra_len]
      simp (disch := omega) only [I_lt, I_le, I_eq, I_in, I_add, I_sub, I_mul, I_b0, I_b01, b_eq0, b_eq1, Classical.not_not, ra_get, ra_set, ra_len, Int.toNat_natCast, eq_self, true_and, and_true, ne_eq, not_false_eq_true, not_true_eq_false]
      refine ⟨fun _ => ?_, fun h => absurd h (by omega)⟩
      exact xX.loc _ (by simp [capOut, e, sm]) (gl s (capOut S s) hs hk S.ng 0 (by omega))
    | succ j ih =>
      intro i hi
      obtain ⟨p1, p2, p3, p4, p5, p6, p7, -, -⟩ := hw.2.2.2.1 i (by omega)
      refine xL_ok (t := tX10_cut) rfl (ops := oX10_cut_24) (by decide +kernel) (T := [(0, oX10_cut_0), (7, oX10_cut_7), (44, oX10_cut_44), (58, oX10_cut_58), (73, oX10_cut_73), (74, oX10_cut_74), (81, oX10_cut_81), (84, oX10_cut_84), (104, oX10_cut_104), (118, oX10_cut_118), (133, oX10_cut_133), (134, oX10_cut_134), (141, oX10_cut_141), (148, oX10_cut_148), (154, oX10_cut_154)]) (by decide +kernel) 0 ?_
      simp only [oX10_cut_0, oX10_cut_7, oX10_cut_44, oX10_cut_58, oX10_cut_73, oX10_cut_74, oX10_cut_81, oX10_cut_84, oX10_cut_104, oX10_cut_118, oX10_cut_133, oX10_cut_134, oX10_cut_141, oX10_cut_148, oX10_cut_154, oX10_cut_24, rX10_cut, x_iconst, x_bipush, x_sipush, x_lconst, x_iload, x_lload, x_aload, x_istore, x_lstore, x_astore, x_iinc, x_iadd, x_isub, x_imul, x_iand, x_ior, x_ixor, x_ishl, x_ishr, x_ineg, x_ladd, x_lsub, x_lmul, x_ldiv, x_lrem, x_lcmp, x_i2l, x_l2i, x_dup, x_dup_x1, x_dup2, x_if_eq, x_if_ne, x_if_lt, x_if_ge, x_if_gt, x_if_le, x_ic_eq, x_ic_ne, x_ic_lt, x_ic_ge, x_ic_gt, x_ic_le, x_goto, x_ireturn, x_lreturn, x_return, x_getfield, x_putfield, x_iaload, x_baload, x_laload, x_aaload, x_iastore, x_bastore, x_lastore, x_aastore, x_arraylength, x_newarray, x_anewarray, x_new, x_iload_0, x_iload_1, x_iload_2, x_iload_3, x_lload_0, x_lload_1, x_lload_2, x_lload_3, x_aload_0, x_aload_1, x_aload_2, x_aload_3, x_istore_0, x_istore_1, x_istore_2, x_istore_3, x_lstore_0, x_lstore_1, x_lstore_2, x_lstore_3, x_astore_0, x_astore_1, x_astore_2, x_astore_3, q_bipush_m3, q_bipush_m2, q_bipush_6, q_bipush_7, q_bipush_9, q_bipush_10, q_bipush_24, q_bipush_30, q_bipush_48, q_bipush_100, q_sipush_300, q_sipush_1000, q_sipush_24001, q_l0, q_l1, xtc_0_0, xtc_0_1, xtc_0_2, xtc_0_3, xtc_0_4, xtc_0_5, xtc_1_0, xtc_1_1, xtc_1_2, xtc_2_0, xtc_2_1, xtc_3_0, xtc_4_0, xtc_4_1, xtc_4_2, xtc_4_3, xtc_4_4, xtc_4_5, xtc_4_6, xtc_4_7, xtc_4_8, xtc_4_9, xtc_4_10, xtc_4_11, xtc_4_12, xtc_5_0, xtc_5_1, xtc_5_2, xtc_5_3, xtc_5_4, xtc_5_5, xtc_5_6, xtc_6_0, xtc_6_1, xtc_6_2, xtc_7_0, xtc_7_1, xtc_8_0, xtc_8_1, xtc_8_2, xtc_8_3, xtc_9_0, xtc_9_1, xtc_9_2, xtc_9_3, xtc_9_4, xtc_9_5, xtc_9_6, xtc_9_7, xtc_9_8, xtc_9_9, xtc_10_0, xtc_10_1, xtc_10_2, xtc_10_3, xtc_10_4, xtc_10_5, xtc_10_6, xtc_10_7, xtc_10_8, xtc_10_9, xtc_10_10, xtc_10_11, xtc_10_12, xtc_10_13, xtc_10_14, xtc_10_15, xtc_10_16, xtc_10_17, xtc_10_18, xtc_10_19, xtc_10_20, xtc_10_21, xtc_10_22, xtc_10_23, xtc_10_24, xtc_10_25, eq_self, reduceIte, Nat.reduceEqDiff, Nat.reduceAdd, Nat.reduceSub, Nat.zero_ne_one, Nat.one_ne_zero, Nat.succ_ne_zero, Nat.reduceLeDiff, reduceCtorEq, and_true, true_and, and_false, false_and, true_implies, false_implies, implies_true, not_true_eq_false, not_false_eq_true, xN_0, xN_s, xlook_c, xlook_n, xb_nil, xb_cons, xlen, xl_cons, xst_def, xst2_def, xdl_nil, xdl_int, xdl_ref, xdl_long, xrv_some, xfit_int, xfit_long, xfit_ref, cat_int, cat_ref, cat_long, xret_int, xret_bool, or_true, true_or, Option.some.injEq, Value.int.injEq, Value.ref.injEq, Value.long.injEq, List.getElem?_cons_zero, List.getElem?_cons_succ, List.set_cons_zero, List.set_cons_succ, List.length_cons, List.length_nil, xup_xup, Classical.not_not, Nat.reduceLT, Nat.zero_lt_succ, m1, m2, ra_len]
      simp (disch := omega) only [I_lt, I_le, I_eq, I_in, I_add, I_sub, I_mul, I_b0, I_b01, b_eq0, b_eq1, Classical.not_not, ra_get, ra_set, ra_len, Int.toNat_natCast, eq_self, true_and, and_true, ne_eq, not_false_eq_true, not_true_eq_false]
      refine ⟨fun h => absurd h (by omega), fun _ => ⟨by omega, ?_⟩⟩
      refine cX10_cut_41 (dc := 0) (cc := 0) (cs := 0) (by omega) (by omega) (by omega) (Nat.le_of_ble_eq_true rfl) (v_has hs p1 (by omega)) (pureQ ?_)
      simp only [Option.toList_some, Option.toList_none, List.cons_append, List.nil_append, Nat.sub_zero, Nat.reduceSub, Nat.sub_self]
      refine xN_ok (t := tX10_cut) rfl (T := [(0, oX10_cut_0), (7, oX10_cut_7), (44, oX10_cut_44), (58, oX10_cut_58), (73, oX10_cut_73), (74, oX10_cut_74), (81, oX10_cut_81), (84, oX10_cut_84), (104, oX10_cut_104), (118, oX10_cut_118), (133, oX10_cut_133), (134, oX10_cut_134), (141, oX10_cut_141), (148, oX10_cut_148), (154, oX10_cut_154)]) (by decide +kernel) 4 _ _ _ _ _ _ _ ?_
      simp only [oX10_cut_0, oX10_cut_7, oX10_cut_44, oX10_cut_58, oX10_cut_73, oX10_cut_74, oX10_cut_81, oX10_cut_84, oX10_cut_104, oX10_cut_118, oX10_cut_133, oX10_cut_134, oX10_cut_141, oX10_cut_148, oX10_cut_154, rX10_cut, x_iconst, x_bipush, x_sipush, x_lconst, x_iload, x_lload, x_aload, x_istore, x_lstore, x_astore, x_iinc, x_iadd, x_isub, x_imul, x_iand, x_ior, x_ixor, x_ishl, x_ishr, x_ineg, x_ladd, x_lsub, x_lmul, x_ldiv, x_lrem, x_lcmp, x_i2l, x_l2i, x_dup, x_dup_x1, x_dup2, x_if_eq, x_if_ne, x_if_lt, x_if_ge, x_if_gt, x_if_le, x_ic_eq, x_ic_ne, x_ic_lt, x_ic_ge, x_ic_gt, x_ic_le, x_goto, x_ireturn, x_lreturn, x_return, x_getfield, x_putfield, x_iaload, x_baload, x_laload, x_aaload, x_iastore, x_bastore, x_lastore, x_aastore, x_arraylength, x_newarray, x_anewarray, x_new, x_iload_0, x_iload_1, x_iload_2, x_iload_3, x_lload_0, x_lload_1, x_lload_2, x_lload_3, x_aload_0, x_aload_1, x_aload_2, x_aload_3, x_istore_0, x_istore_1, x_istore_2, x_istore_3, x_lstore_0, x_lstore_1, x_lstore_2, x_lstore_3, x_astore_0, x_astore_1, x_astore_2, x_astore_3, q_bipush_m3, q_bipush_m2, q_bipush_6, q_bipush_7, q_bipush_9, q_bipush_10, q_bipush_24, q_bipush_30, q_bipush_48, q_bipush_100, q_sipush_300, q_sipush_1000, q_sipush_24001, q_l0, q_l1, xtc_0_0, xtc_0_1, xtc_0_2, xtc_0_3, xtc_0_4, xtc_0_5, xtc_1_0, xtc_1_1, xtc_1_2, xtc_2_0, xtc_2_1, xtc_3_0, xtc_4_0, xtc_4_1, xtc_4_2, xtc_4_3, xtc_4_4, xtc_4_5, xtc_4_6, xtc_4_7, xtc_4_8, xtc_4_9, xtc_4_10, xtc_4_11, xtc_4_12, xtc_5_0, xtc_5_1, xtc_5_2, xtc_5_3, xtc_5_4, xtc_5_5, xtc_5_6, xtc_6_0, xtc_6_1, xtc_6_2, xtc_7_0, xtc_7_1, xtc_8_0, xtc_8_1, xtc_8_2, xtc_8_3, xtc_9_0, xtc_9_1, xtc_9_2, xtc_9_3, xtc_9_4, xtc_9_5, xtc_9_6, xtc_9_7, xtc_9_8, xtc_9_9, xtc_10_0, xtc_10_1, xtc_10_2, xtc_10_3, xtc_10_4, xtc_10_5, xtc_10_6, xtc_10_7, xtc_10_8, xtc_10_9, xtc_10_10, xtc_10_11, xtc_10_12, xtc_10_13, xtc_10_14, xtc_10_15, xtc_10_16, xtc_10_17, xtc_10_18, xtc_10_19, xtc_10_20, xtc_10_21, xtc_10_22, xtc_10_23, xtc_10_24, xtc_10_25, eq_self, reduceIte, Nat.reduceEqDiff, Nat.reduceAdd, Nat.reduceSub, Nat.zero_ne_one, Nat.one_ne_zero, Nat.succ_ne_zero, Nat.reduceLeDiff, reduceCtorEq, and_true, true_and, and_false, false_and, true_implies, false_implies, implies_true, not_true_eq_false, not_false_eq_true, xN_0, xN_s, xlook_c, xlook_n, xb_nil, xb_cons, xlen, xl_cons, xst_def, xst2_def, xdl_nil, xdl_int, xdl_ref, xdl_long, xrv_some, xfit_int, xfit_long, xfit_ref, cat_int, cat_ref, cat_long, xret_int, xret_bool, or_true, true_or, Option.some.injEq, Value.int.injEq, Value.ref.injEq, Value.long.injEq, List.getElem?_cons_zero, List.getElem?_cons_succ, List.set_cons_zero, List.set_cons_succ, List.length_cons, List.length_nil, xup_xup, Classical.not_not, Nat.reduceLT, Nat.zero_lt_succ, m1, m3, ra_len]
      simp (disch := omega) only [I_lt, I_le, I_eq, I_in, I_add, I_sub, I_mul, I_b0, I_b01, b_eq0, b_eq1, Classical.not_not, ra_get, ra_set, ra_len, Int.toNat_natCast, eq_self, true_and, and_true, ne_eq, not_false_eq_true, not_true_eq_false]
      refine ⟨fun h => xX.loc _ (by simp [sm, outs, h]) (ih (i + 1) (by omega)), fun h => ⟨by omega, ?_⟩⟩
      refine cX10_cut_55 (dc := 0) (cc := 0) (cs := 0) (by omega) (by omega) (by omega) (Nat.le_of_ble_eq_true rfl) (v_has hs p3 (by omega)) (pureQ ?_)
      simp only [Option.toList_some, Option.toList_none, List.cons_append, List.nil_append, Nat.sub_zero, Nat.reduceSub, Nat.sub_self]
      refine xN_ok (t := tX10_cut) rfl (T := [(0, oX10_cut_0), (7, oX10_cut_7), (44, oX10_cut_44), (58, oX10_cut_58), (73, oX10_cut_73), (74, oX10_cut_74), (81, oX10_cut_81), (84, oX10_cut_84), (104, oX10_cut_104), (118, oX10_cut_118), (133, oX10_cut_133), (134, oX10_cut_134), (141, oX10_cut_141), (148, oX10_cut_148), (154, oX10_cut_154)]) (by decide +kernel) 4 _ _ _ _ _ _ _ ?_
      simp only [oX10_cut_0, oX10_cut_7, oX10_cut_44, oX10_cut_58, oX10_cut_73, oX10_cut_74, oX10_cut_81, oX10_cut_84, oX10_cut_104, oX10_cut_118, oX10_cut_133, oX10_cut_134, oX10_cut_141, oX10_cut_148, oX10_cut_154, rX10_cut, x_iconst, x_bipush, x_sipush, x_lconst, x_iload, x_lload, x_aload, x_istore, x_lstore, x_astore, x_iinc, x_iadd, x_isub, x_imul, x_iand, x_ior, x_ixor, x_ishl, x_ishr, x_ineg, x_ladd, x_lsub, x_lmul, x_ldiv, x_lrem, x_lcmp, x_i2l, x_l2i, x_dup, x_dup_x1, x_dup2, x_if_eq, x_if_ne, x_if_lt, x_if_ge, x_if_gt, x_if_le, x_ic_eq, x_ic_ne, x_ic_lt, x_ic_ge, x_ic_gt, x_ic_le, x_goto, x_ireturn, x_lreturn, x_return, x_getfield, x_putfield, x_iaload, x_baload, x_laload, x_aaload, x_iastore, x_bastore, x_lastore, x_aastore, x_arraylength, x_newarray, x_anewarray, x_new, x_iload_0, x_iload_1, x_iload_2, x_iload_3, x_lload_0, x_lload_1, x_lload_2, x_lload_3, x_aload_0, x_aload_1, x_aload_2, x_aload_3, x_istore_0, x_istore_1, x_istore_2, x_istore_3, x_lstore_0, x_lstore_1, x_lstore_2, x_lstore_3, x_astore_0, x_astore_1, x_astore_2, x_astore_3, q_bipush_m3, q_bipush_m2, q_bipush_6, q_bipush_7, q_bipush_9, q_bipush_10, q_bipush_24, q_bipush_30, q_bipush_48, q_bipush_100, q_sipush_300, q_sipush_1000, q_sipush_24001, q_l0, q_l1, xtc_0_0, xtc_0_1, xtc_0_2, xtc_0_3, xtc_0_4, xtc_0_5, xtc_1_0, xtc_1_1, xtc_1_2, xtc_2_0, xtc_2_1, xtc_3_0, xtc_4_0, xtc_4_1, xtc_4_2, xtc_4_3, xtc_4_4, xtc_4_5, xtc_4_6, xtc_4_7, xtc_4_8, xtc_4_9, xtc_4_10, xtc_4_11, xtc_4_12, xtc_5_0, xtc_5_1, xtc_5_2, xtc_5_3, xtc_5_4, xtc_5_5, xtc_5_6, xtc_6_0, xtc_6_1, xtc_6_2, xtc_7_0, xtc_7_1, xtc_8_0, xtc_8_1, xtc_8_2, xtc_8_3, xtc_9_0, xtc_9_1, xtc_9_2, xtc_9_3, xtc_9_4, xtc_9_5, xtc_9_6, xtc_9_7, xtc_9_8, xtc_9_9, xtc_10_0, xtc_10_1, xtc_10_2, xtc_10_3, xtc_10_4, xtc_10_5, xtc_10_6, xtc_10_7, xtc_10_8, xtc_10_9, xtc_10_10, xtc_10_11, xtc_10_12, xtc_10_13, xtc_10_14, xtc_10_15, xtc_10_16, xtc_10_17, xtc_10_18, xtc_10_19, xtc_10_20, xtc_10_21, xtc_10_22, xtc_10_23, xtc_10_24, xtc_10_25, eq_self, reduceIte, Nat.reduceEqDiff, Nat.reduceAdd, Nat.reduceSub, Nat.zero_ne_one, Nat.one_ne_zero, Nat.succ_ne_zero, Nat.reduceLeDiff, reduceCtorEq, and_true, true_and, and_false, false_and, true_implies, false_implies, implies_true, not_true_eq_false, not_false_eq_true, xN_0, xN_s, xlook_c, xlook_n, xb_nil, xb_cons, xlen, xl_cons, xst_def, xst2_def, xdl_nil, xdl_int, xdl_ref, xdl_long, xrv_some, xfit_int, xfit_long, xfit_ref, cat_int, cat_ref, cat_long, xret_int, xret_bool, or_true, true_or, Option.some.injEq, Value.int.injEq, Value.ref.injEq, Value.long.injEq, List.getElem?_cons_zero, List.getElem?_cons_succ, List.set_cons_zero, List.set_cons_succ, List.length_cons, List.length_nil, xup_xup, Classical.not_not, Nat.reduceLT, Nat.zero_lt_succ, m1, m4, ra_len]
      simp (disch := omega) only [I_lt, I_le, I_eq, I_in, I_add, I_sub, I_mul, I_b0, I_b01, b_eq0, b_eq1, Classical.not_not, ra_get, ra_set, ra_len, Int.toNat_natCast, eq_self, true_and, and_true, ne_eq, not_false_eq_true, not_true_eq_false]
      refine ⟨fun h2 => xX.loc _ (by simp [sm, outs, h, h2]) (ih (i + 1) (by omega)), fun h2 => ⟨by omega, xX.loc _ (by simp [sm, outs, h, h2]) (ih (i + 1) (by omega))⟩⟩
  have hcb : ∀ s, 0 ≤ capOut S s ∧ capOut S s ≤ 24000 := by
    intro s
    have := sm_bd (f := fun i => if outs s (S.2 0 i) (S.2 1 i) = true then S.2 2 i else 0) (B := 1000) S.na (fun i hi => by
      obtain ⟨-, -, -, -, -, q1, q2, -, -⟩ := hw.2.2.2.1 i hi
      by_cases h : outs s (S.2 0 i) (S.2 1 i) = true <;> simp [h] <;> omega)
    unfold capOut
    omega
  have loop : ∀ j i : Nat, i + j = 2 ^ S.nn → fS (cutB S) j i = fS (cutB S) (2 ^ S.nn) 0 → xX l tX10_cut d 0 0 Q 0 0 7 [(0, .ref 121), (1, .int (I i))] [] n ws := by
    intro j
    induction j with
    | zero =>
      intro i hi hf
      refine xL_ok (t := tX10_cut) rfl (ops := oX10_cut_7) (by decide +kernel) (T := [(0, oX10_cut_0), (44, oX10_cut_44), (58, oX10_cut_58), (73, oX10_cut_73), (74, oX10_cut_74), (81, oX10_cut_81), (84, oX10_cut_84), (104, oX10_cut_104), (118, oX10_cut_118), (133, oX10_cut_133), (134, oX10_cut_134), (141, oX10_cut_141), (148, oX10_cut_148), (154, oX10_cut_154)]) (by decide +kernel) 2 ?_
      simp only [oX10_cut_0, oX10_cut_44, oX10_cut_58, oX10_cut_73, oX10_cut_74, oX10_cut_81, oX10_cut_84, oX10_cut_104, oX10_cut_118, oX10_cut_133, oX10_cut_134, oX10_cut_141, oX10_cut_148, oX10_cut_154, oX10_cut_7, rX10_cut, x_iconst, x_bipush, x_sipush, x_lconst, x_iload, x_lload, x_aload, x_istore, x_lstore, x_astore, x_iinc, x_iadd, x_isub, x_imul, x_iand, x_ior, x_ixor, x_ishl, x_ishr, x_ineg, x_ladd, x_lsub, x_lmul, x_ldiv, x_lrem, x_lcmp, x_i2l, x_l2i, x_dup, x_dup_x1, x_dup2, x_if_eq, x_if_ne, x_if_lt, x_if_ge, x_if_gt, x_if_le, x_ic_eq, x_ic_ne, x_ic_lt, x_ic_ge, x_ic_gt, x_ic_le, x_goto, x_ireturn, x_lreturn, x_return, x_getfield, x_putfield, x_iaload, x_baload, x_laload, x_aaload, x_iastore, x_bastore, x_lastore, x_aastore, x_arraylength, x_newarray, x_anewarray, x_new, x_iload_0, x_iload_1, x_iload_2, x_iload_3, x_lload_0, x_lload_1, x_lload_2, x_lload_3, x_aload_0, x_aload_1, x_aload_2, x_aload_3, x_istore_0, x_istore_1, x_istore_2, x_istore_3, x_lstore_0, x_lstore_1, x_lstore_2, x_lstore_3, x_astore_0, x_astore_1, x_astore_2, x_astore_3, q_bipush_m3, q_bipush_m2, q_bipush_6, q_bipush_7, q_bipush_9, q_bipush_10, q_bipush_24, q_bipush_30, q_bipush_48, q_bipush_100, q_sipush_300, q_sipush_1000, q_sipush_24001, q_l0, q_l1, xtc_0_0, xtc_0_1, xtc_0_2, xtc_0_3, xtc_0_4, xtc_0_5, xtc_1_0, xtc_1_1, xtc_1_2, xtc_2_0, xtc_2_1, xtc_3_0, xtc_4_0, xtc_4_1, xtc_4_2, xtc_4_3, xtc_4_4, xtc_4_5, xtc_4_6, xtc_4_7, xtc_4_8, xtc_4_9, xtc_4_10, xtc_4_11, xtc_4_12, xtc_5_0, xtc_5_1, xtc_5_2, xtc_5_3, xtc_5_4, xtc_5_5, xtc_5_6, xtc_6_0, xtc_6_1, xtc_6_2, xtc_7_0, xtc_7_1, xtc_8_0, xtc_8_1, xtc_8_2, xtc_8_3, xtc_9_0, xtc_9_1, xtc_9_2, xtc_9_3, xtc_9_4, xtc_9_5, xtc_9_6, xtc_9_7, xtc_9_8, xtc_9_9, xtc_10_0, xtc_10_1, xtc_10_2, xtc_10_3, xtc_10_4, xtc_10_5, xtc_10_6, xtc_10_7, xtc_10_8, xtc_10_9, xtc_10_10, xtc_10_11, xtc_10_12, xtc_10_13, xtc_10_14, xtc_10_15, xtc_10_16, xtc_10_17, xtc_10_18, xtc_10_19, xtc_10_20, xtc_10_21, xtc_10_22, xtc_10_23, xtc_10_24, xtc_10_25, eq_self, reduceIte, Nat.reduceEqDiff, Nat.reduceAdd, Nat.reduceSub, Nat.zero_ne_one, Nat.one_ne_zero, Nat.succ_ne_zero, Nat.reduceLeDiff, reduceCtorEq, and_true, true_and, and_false, false_and, true_implies, false_implies, implies_true, not_true_eq_false, not_false_eq_true, xN_0, xN_s, xlook_c, xlook_n, xb_nil, xb_cons, xlen, xl_cons, xst_def, xst2_def, xdl_nil, xdl_int, xdl_ref, xdl_long, xrv_some, xfit_int, xfit_long, xfit_ref, cat_int, cat_ref, cat_long, xret_int, xret_bool, or_true, true_or, Option.some.injEq, Value.int.injEq, Value.ref.injEq, Value.long.injEq, List.getElem?_cons_zero, List.getElem?_cons_succ, List.set_cons_zero, List.set_cons_succ, List.length_cons, List.length_nil, xup_xup, Classical.not_not, Nat.reduceLT, Nat.zero_lt_succ, m1, I_pow _ hb]
      simp (disch := omega) only [I_lt, I_le, I_eq, I_in, I_add, I_sub, I_mul, I_b0, I_b01, b_eq0, b_eq1, Classical.not_not, ra_get, ra_set, ra_len, Int.toNat_natCast, eq_self, true_and, and_true, ne_eq, not_false_eq_true, not_true_eq_false]
      refine ⟨fun _ => ?_, fun h => absurd h (by omega)⟩
      rw [← hQ, ← hf]
      exact ⟨rfl, rfl, rfl⟩
    | succ j ih =>
      intro i hi hf
      have hc := hcb i
      have hdb := demOut_bd hw i
      refine xL_ok (t := tX10_cut) rfl (ops := oX10_cut_7) (by decide +kernel) (T := [(0, oX10_cut_0), (44, oX10_cut_44), (58, oX10_cut_58), (73, oX10_cut_73), (74, oX10_cut_74), (81, oX10_cut_81), (84, oX10_cut_84), (104, oX10_cut_104), (118, oX10_cut_118), (133, oX10_cut_133), (134, oX10_cut_134), (141, oX10_cut_141), (148, oX10_cut_148), (154, oX10_cut_154)]) (by decide +kernel) 2 ?_
      simp only [oX10_cut_0, oX10_cut_44, oX10_cut_58, oX10_cut_73, oX10_cut_74, oX10_cut_81, oX10_cut_84, oX10_cut_104, oX10_cut_118, oX10_cut_133, oX10_cut_134, oX10_cut_141, oX10_cut_148, oX10_cut_154, oX10_cut_7, rX10_cut, x_iconst, x_bipush, x_sipush, x_lconst, x_iload, x_lload, x_aload, x_istore, x_lstore, x_astore, x_iinc, x_iadd, x_isub, x_imul, x_iand, x_ior, x_ixor, x_ishl, x_ishr, x_ineg, x_ladd, x_lsub, x_lmul, x_ldiv, x_lrem, x_lcmp, x_i2l, x_l2i, x_dup, x_dup_x1, x_dup2, x_if_eq, x_if_ne, x_if_lt, x_if_ge, x_if_gt, x_if_le, x_ic_eq, x_ic_ne, x_ic_lt, x_ic_ge, x_ic_gt, x_ic_le, x_goto, x_ireturn, x_lreturn, x_return, x_getfield, x_putfield, x_iaload, x_baload, x_laload, x_aaload, x_iastore, x_bastore, x_lastore, x_aastore, x_arraylength, x_newarray, x_anewarray, x_new, x_iload_0, x_iload_1, x_iload_2, x_iload_3, x_lload_0, x_lload_1, x_lload_2, x_lload_3, x_aload_0, x_aload_1, x_aload_2, x_aload_3, x_istore_0, x_istore_1, x_istore_2, x_istore_3, x_lstore_0, x_lstore_1, x_lstore_2, x_lstore_3, x_astore_0, x_astore_1, x_astore_2, x_astore_3, q_bipush_m3, q_bipush_m2, q_bipush_6, q_bipush_7, q_bipush_9, q_bipush_10, q_bipush_24, q_bipush_30, q_bipush_48, q_bipush_100, q_sipush_300, q_sipush_1000, q_sipush_24001, q_l0, q_l1, xtc_0_0, xtc_0_1, xtc_0_2, xtc_0_3, xtc_0_4, xtc_0_5, xtc_1_0, xtc_1_1, xtc_1_2, xtc_2_0, xtc_2_1, xtc_3_0, xtc_4_0, xtc_4_1, xtc_4_2, xtc_4_3, xtc_4_4, xtc_4_5, xtc_4_6, xtc_4_7, xtc_4_8, xtc_4_9, xtc_4_10, xtc_4_11, xtc_4_12, xtc_5_0, xtc_5_1, xtc_5_2, xtc_5_3, xtc_5_4, xtc_5_5, xtc_5_6, xtc_6_0, xtc_6_1, xtc_6_2, xtc_7_0, xtc_7_1, xtc_8_0, xtc_8_1, xtc_8_2, xtc_8_3, xtc_9_0, xtc_9_1, xtc_9_2, xtc_9_3, xtc_9_4, xtc_9_5, xtc_9_6, xtc_9_7, xtc_9_8, xtc_9_9, xtc_10_0, xtc_10_1, xtc_10_2, xtc_10_3, xtc_10_4, xtc_10_5, xtc_10_6, xtc_10_7, xtc_10_8, xtc_10_9, xtc_10_10, xtc_10_11, xtc_10_12, xtc_10_13, xtc_10_14, xtc_10_15, xtc_10_16, xtc_10_17, xtc_10_18, xtc_10_19, xtc_10_20, xtc_10_21, xtc_10_22, xtc_10_23, xtc_10_24, xtc_10_25, eq_self, reduceIte, Nat.reduceEqDiff, Nat.reduceAdd, Nat.reduceSub, Nat.zero_ne_one, Nat.one_ne_zero, Nat.succ_ne_zero, Nat.reduceLeDiff, reduceCtorEq, and_true, true_and, and_false, false_and, true_implies, false_implies, implies_true, not_true_eq_false, not_false_eq_true, xN_0, xN_s, xlook_c, xlook_n, xb_nil, xb_cons, xlen, xl_cons, xst_def, xst2_def, xdl_nil, xdl_int, xdl_ref, xdl_long, xrv_some, xfit_int, xfit_long, xfit_ref, cat_int, cat_ref, cat_long, xret_int, xret_bool, or_true, true_or, Option.some.injEq, Value.int.injEq, Value.ref.injEq, Value.long.injEq, List.getElem?_cons_zero, List.getElem?_cons_succ, List.set_cons_zero, List.set_cons_succ, List.length_cons, List.length_nil, xup_xup, Classical.not_not, Nat.reduceLT, Nat.zero_lt_succ, m1, I_pow _ hb]
      simp (disch := omega) only [I_lt, I_le, I_eq, I_in, I_add, I_sub, I_mul, I_b0, I_b01, b_eq0, b_eq1, Classical.not_not, ra_get, ra_set, ra_len, Int.toNat_natCast, eq_self, true_and, and_true, ne_eq, not_false_eq_true, not_true_eq_false]
      refine ⟨fun h => absurd h (by omega), fun _ => ?_⟩
      refine xX.loc _ (by simp [sm]) (al i (by omega) ?_ S.na 0 (by omega))
      refine xN_ok (t := tX10_cut) rfl (T := [(0, oX10_cut_0), (24, oX10_cut_24), (44, oX10_cut_44), (58, oX10_cut_58), (73, oX10_cut_73), (74, oX10_cut_74), (81, oX10_cut_81), (84, oX10_cut_84), (104, oX10_cut_104), (118, oX10_cut_118), (133, oX10_cut_133), (134, oX10_cut_134), (141, oX10_cut_141), (148, oX10_cut_148), (154, oX10_cut_154)]) (by decide +kernel) 3 _ _ _ _ _ _ _ ?_
      simp only [oX10_cut_0, oX10_cut_24, oX10_cut_44, oX10_cut_58, oX10_cut_73, oX10_cut_74, oX10_cut_81, oX10_cut_84, oX10_cut_104, oX10_cut_118, oX10_cut_133, oX10_cut_134, oX10_cut_141, oX10_cut_148, oX10_cut_154, rX10_cut, x_iconst, x_bipush, x_sipush, x_lconst, x_iload, x_lload, x_aload, x_istore, x_lstore, x_astore, x_iinc, x_iadd, x_isub, x_imul, x_iand, x_ior, x_ixor, x_ishl, x_ishr, x_ineg, x_ladd, x_lsub, x_lmul, x_ldiv, x_lrem, x_lcmp, x_i2l, x_l2i, x_dup, x_dup_x1, x_dup2, x_if_eq, x_if_ne, x_if_lt, x_if_ge, x_if_gt, x_if_le, x_ic_eq, x_ic_ne, x_ic_lt, x_ic_ge, x_ic_gt, x_ic_le, x_goto, x_ireturn, x_lreturn, x_return, x_getfield, x_putfield, x_iaload, x_baload, x_laload, x_aaload, x_iastore, x_bastore, x_lastore, x_aastore, x_arraylength, x_newarray, x_anewarray, x_new, x_iload_0, x_iload_1, x_iload_2, x_iload_3, x_lload_0, x_lload_1, x_lload_2, x_lload_3, x_aload_0, x_aload_1, x_aload_2, x_aload_3, x_istore_0, x_istore_1, x_istore_2, x_istore_3, x_lstore_0, x_lstore_1, x_lstore_2, x_lstore_3, x_astore_0, x_astore_1, x_astore_2, x_astore_3, q_bipush_m3, q_bipush_m2, q_bipush_6, q_bipush_7, q_bipush_9, q_bipush_10, q_bipush_24, q_bipush_30, q_bipush_48, q_bipush_100, q_sipush_300, q_sipush_1000, q_sipush_24001, q_l0, q_l1, xtc_0_0, xtc_0_1, xtc_0_2, xtc_0_3, xtc_0_4, xtc_0_5, xtc_1_0, xtc_1_1, xtc_1_2, xtc_2_0, xtc_2_1, xtc_3_0, xtc_4_0, xtc_4_1, xtc_4_2, xtc_4_3, xtc_4_4, xtc_4_5, xtc_4_6, xtc_4_7, xtc_4_8, xtc_4_9, xtc_4_10, xtc_4_11, xtc_4_12, xtc_5_0, xtc_5_1, xtc_5_2, xtc_5_3, xtc_5_4, xtc_5_5, xtc_5_6, xtc_6_0, xtc_6_1, xtc_6_2, xtc_7_0, xtc_7_1, xtc_8_0, xtc_8_1, xtc_8_2, xtc_8_3, xtc_9_0, xtc_9_1, xtc_9_2, xtc_9_3, xtc_9_4, xtc_9_5, xtc_9_6, xtc_9_7, xtc_9_8, xtc_9_9, xtc_10_0, xtc_10_1, xtc_10_2, xtc_10_3, xtc_10_4, xtc_10_5, xtc_10_6, xtc_10_7, xtc_10_8, xtc_10_9, xtc_10_10, xtc_10_11, xtc_10_12, xtc_10_13, xtc_10_14, xtc_10_15, xtc_10_16, xtc_10_17, xtc_10_18, xtc_10_19, xtc_10_20, xtc_10_21, xtc_10_22, xtc_10_23, xtc_10_24, xtc_10_25, eq_self, reduceIte, Nat.reduceEqDiff, Nat.reduceAdd, Nat.reduceSub, Nat.zero_ne_one, Nat.one_ne_zero, Nat.succ_ne_zero, Nat.reduceLeDiff, reduceCtorEq, and_true, true_and, and_false, false_and, true_implies, false_implies, implies_true, not_true_eq_false, not_false_eq_true, xN_0, xN_s, xlook_c, xlook_n, xb_nil, xb_cons, xlen, xl_cons, xst_def, xst2_def, xdl_nil, xdl_int, xdl_ref, xdl_long, xrv_some, xfit_int, xfit_long, xfit_ref, cat_int, cat_ref, cat_long, xret_int, xret_bool, or_true, true_or, Option.some.injEq, Value.int.injEq, Value.ref.injEq, Value.long.injEq, List.getElem?_cons_zero, List.getElem?_cons_succ, List.set_cons_zero, List.set_cons_succ, List.length_cons, List.length_nil, xup_xup, Classical.not_not, Nat.reduceLT, Nat.zero_lt_succ]
      simp (disch := omega) only [I_lt, I_le, I_eq, I_in, I_add, I_sub, I_mul, I_b0, I_b01, b_eq0, b_eq1, Classical.not_not, ra_get, ra_set, ra_len, Int.toNat_natCast, eq_self, true_and, and_true, ne_eq, not_false_eq_true, not_true_eq_false]
      rw [show fS (cutB S) (j + 1) i = if cutB S i = true then (i : Int) else fS (cutB S) j (i + 1) from rfl] at hf
      refine ⟨fun h => ?_, fun h => ?_⟩
      · rw [if_neg (by unfold cutB; simp; omega)] at hf
        exact xX.loc _ (by simp) (ih (i + 1) (by omega) hf)
      · rw [if_pos (by unfold cutB; simp; omega)] at hf
        rw [← hQ, ← hf]
        exact ⟨rfl, rfl, rfl⟩
  refine xN_ok (t := tX10_cut) rfl (T := AX10_cut) aX10_cut 1 _ _ _ _ _ _ _ ?_
  simp only [AX10_cut, oX10_cut_0, oX10_cut_7, oX10_cut_24, oX10_cut_44, oX10_cut_58, oX10_cut_73, oX10_cut_74, oX10_cut_81, oX10_cut_84, oX10_cut_104, oX10_cut_118, oX10_cut_133, oX10_cut_134, oX10_cut_141, oX10_cut_148, oX10_cut_154, rX10_cut, x_iconst, x_bipush, x_sipush, x_lconst, x_iload, x_lload, x_aload, x_istore, x_lstore, x_astore, x_iinc, x_iadd, x_isub, x_imul, x_iand, x_ior, x_ixor, x_ishl, x_ishr, x_ineg, x_ladd, x_lsub, x_lmul, x_ldiv, x_lrem, x_lcmp, x_i2l, x_l2i, x_dup, x_dup_x1, x_dup2, x_if_eq, x_if_ne, x_if_lt, x_if_ge, x_if_gt, x_if_le, x_ic_eq, x_ic_ne, x_ic_lt, x_ic_ge, x_ic_gt, x_ic_le, x_goto, x_ireturn, x_lreturn, x_return, x_getfield, x_putfield, x_iaload, x_baload, x_laload, x_aaload, x_iastore, x_bastore, x_lastore, x_aastore, x_arraylength, x_newarray, x_anewarray, x_new, x_iload_0, x_iload_1, x_iload_2, x_iload_3, x_lload_0, x_lload_1, x_lload_2, x_lload_3, x_aload_0, x_aload_1, x_aload_2, x_aload_3, x_istore_0, x_istore_1, x_istore_2, x_istore_3, x_lstore_0, x_lstore_1, x_lstore_2, x_lstore_3, x_astore_0, x_astore_1, x_astore_2, x_astore_3, q_bipush_m3, q_bipush_m2, q_bipush_6, q_bipush_7, q_bipush_9, q_bipush_10, q_bipush_24, q_bipush_30, q_bipush_48, q_bipush_100, q_sipush_300, q_sipush_1000, q_sipush_24001, q_l0, q_l1, xtc_0_0, xtc_0_1, xtc_0_2, xtc_0_3, xtc_0_4, xtc_0_5, xtc_1_0, xtc_1_1, xtc_1_2, xtc_2_0, xtc_2_1, xtc_3_0, xtc_4_0, xtc_4_1, xtc_4_2, xtc_4_3, xtc_4_4, xtc_4_5, xtc_4_6, xtc_4_7, xtc_4_8, xtc_4_9, xtc_4_10, xtc_4_11, xtc_4_12, xtc_5_0, xtc_5_1, xtc_5_2, xtc_5_3, xtc_5_4, xtc_5_5, xtc_5_6, xtc_6_0, xtc_6_1, xtc_6_2, xtc_7_0, xtc_7_1, xtc_8_0, xtc_8_1, xtc_8_2, xtc_8_3, xtc_9_0, xtc_9_1, xtc_9_2, xtc_9_3, xtc_9_4, xtc_9_5, xtc_9_6, xtc_9_7, xtc_9_8, xtc_9_9, xtc_10_0, xtc_10_1, xtc_10_2, xtc_10_3, xtc_10_4, xtc_10_5, xtc_10_6, xtc_10_7, xtc_10_8, xtc_10_9, xtc_10_10, xtc_10_11, xtc_10_12, xtc_10_13, xtc_10_14, xtc_10_15, xtc_10_16, xtc_10_17, xtc_10_18, xtc_10_19, xtc_10_20, xtc_10_21, xtc_10_22, xtc_10_23, xtc_10_24, xtc_10_25, eq_self, reduceIte, Nat.reduceEqDiff, Nat.reduceAdd, Nat.reduceSub, Nat.zero_ne_one, Nat.one_ne_zero, Nat.succ_ne_zero, Nat.reduceLeDiff, reduceCtorEq, and_true, true_and, and_false, false_and, true_implies, false_implies, implies_true, not_true_eq_false, not_false_eq_true, xN_0, xN_s, xlook_c, xlook_n, xb_nil, xb_cons, xlen, xl_cons, xst_def, xst2_def, xdl_nil, xdl_int, xdl_ref, xdl_long, xrv_some, xfit_int, xfit_long, xfit_ref, cat_int, cat_ref, cat_long, xret_int, xret_bool, or_true, true_or, Option.some.injEq, Value.int.injEq, Value.ref.injEq, Value.long.injEq, List.getElem?_cons_zero, List.getElem?_cons_succ, List.set_cons_zero, List.set_cons_succ, List.length_cons, List.length_nil, xup_xup, Classical.not_not, Nat.reduceLT, Nat.zero_lt_succ, m1, xup_id m1]
  exact xX.loc _ (by simp) (loop (2 ^ S.nn) 0 (by omega) rfl)
theorem v_count (hM : ModAt ws S bw bs) (hw : WF S) {v : Int} (h1 : -2147483648 ≤ v) (h2 : v < 2147483648) : xM l tX10_count d 0 0 [.ref 121, .int (I v)] n ws (fun r n' ws' => r = some (.int (I (spCount S v))) ∧ n' = n ∧ ws' = ws) := by
  obtain ⟨m1, m2, m3, m4, m5, m6, m7, m8, m9⟩ := hM
  have hb1 : S.na ≤ 24 := hw.2.1
  have hb2 : S.ng ≤ 6 := hw.2.2.1
  refine xM.of (by decide) (Nat.le_of_ble_eq_true rfl) ?_
  simp only [lv_args, cat_int, cat_ref, cat_long, reduceIte, Nat.reduceEqDiff, Nat.reduceAdd, Nat.one_ne_zero, Nat.reduceLeDiff]
  refine xN_ok (t := tX10_count) rfl (T := AX10_count) aX10_count 1 _ _ _ _ _ _ _ ?_
  simp only [AX10_count, oX10_count_0, oX10_count_48, oX10_count_53, oX10_count_58, oX10_count_63, oX10_count_65, oX10_count_88, oX10_count_90, oX10_count_92, oX10_count_116, oX10_count_124, oX10_count_131, oX10_count_133, rX10_count, x_iconst, x_bipush, x_sipush, x_lconst, x_iload, x_lload, x_aload, x_istore, x_lstore, x_astore, x_iinc, x_iadd, x_isub, x_imul, x_iand, x_ior, x_ixor, x_ishl, x_ishr, x_ineg, x_ladd, x_lsub, x_lmul, x_ldiv, x_lrem, x_lcmp, x_i2l, x_l2i, x_dup, x_dup_x1, x_dup2, x_if_eq, x_if_ne, x_if_lt, x_if_ge, x_if_gt, x_if_le, x_ic_eq, x_ic_ne, x_ic_lt, x_ic_ge, x_ic_gt, x_ic_le, x_goto, x_ireturn, x_lreturn, x_return, x_getfield, x_putfield, x_iaload, x_baload, x_laload, x_aaload, x_iastore, x_bastore, x_lastore, x_aastore, x_arraylength, x_newarray, x_anewarray, x_new, x_iload_0, x_iload_1, x_iload_2, x_iload_3, x_lload_0, x_lload_1, x_lload_2, x_lload_3, x_aload_0, x_aload_1, x_aload_2, x_aload_3, x_istore_0, x_istore_1, x_istore_2, x_istore_3, x_lstore_0, x_lstore_1, x_lstore_2, x_lstore_3, x_astore_0, x_astore_1, x_astore_2, x_astore_3, q_bipush_m3, q_bipush_m2, q_bipush_6, q_bipush_7, q_bipush_9, q_bipush_10, q_bipush_24, q_bipush_30, q_bipush_48, q_bipush_100, q_sipush_300, q_sipush_1000, q_sipush_24001, q_l0, q_l1, xtc_0_0, xtc_0_1, xtc_0_2, xtc_0_3, xtc_0_4, xtc_0_5, xtc_1_0, xtc_1_1, xtc_1_2, xtc_2_0, xtc_2_1, xtc_3_0, xtc_4_0, xtc_4_1, xtc_4_2, xtc_4_3, xtc_4_4, xtc_4_5, xtc_4_6, xtc_4_7, xtc_4_8, xtc_4_9, xtc_4_10, xtc_4_11, xtc_4_12, xtc_5_0, xtc_5_1, xtc_5_2, xtc_5_3, xtc_5_4, xtc_5_5, xtc_5_6, xtc_6_0, xtc_6_1, xtc_6_2, xtc_7_0, xtc_7_1, xtc_8_0, xtc_8_1, xtc_8_2, xtc_8_3, xtc_9_0, xtc_9_1, xtc_9_2, xtc_9_3, xtc_9_4, xtc_9_5, xtc_9_6, xtc_9_7, xtc_9_8, xtc_9_9, xtc_10_0, xtc_10_1, xtc_10_2, xtc_10_3, xtc_10_4, xtc_10_5, xtc_10_6, xtc_10_7, xtc_10_8, xtc_10_9, xtc_10_10, xtc_10_11, xtc_10_12, xtc_10_13, xtc_10_14, xtc_10_15, xtc_10_16, xtc_10_17, xtc_10_18, xtc_10_19, xtc_10_20, xtc_10_21, xtc_10_22, xtc_10_23, xtc_10_24, xtc_10_25, eq_self, reduceIte, Nat.reduceEqDiff, Nat.reduceAdd, Nat.reduceSub, Nat.zero_ne_one, Nat.one_ne_zero, Nat.succ_ne_zero, Nat.reduceLeDiff, reduceCtorEq, and_true, true_and, and_false, false_and, true_implies, false_implies, implies_true, not_true_eq_false, not_false_eq_true, xN_0, xN_s, xlook_c, xlook_n, xb_nil, xb_cons, xlen, xl_cons, xst_def, xst2_def, xdl_nil, xdl_int, xdl_ref, xdl_long, xrv_some, xfit_int, xfit_long, xfit_ref, cat_int, cat_ref, cat_long, xret_int, xret_bool, or_true, true_or, Option.some.injEq, Value.int.injEq, Value.ref.injEq, Value.long.injEq, List.getElem?_cons_zero, List.getElem?_cons_succ, List.set_cons_zero, List.set_cons_succ, List.length_cons, List.length_nil, xup_xup, Classical.not_not, Nat.reduceLT, Nat.zero_lt_succ, m1, xup_id m1]
  refine xswitch (t := tX10_count) (dflt := 125) (lo := 0) (hi := 5) (offs := #[40, 45, 50, 55, 82, 82]) (len := 40) (by decide +kernel) (by decide) (by decide) (fun j off h => ?_) (fun j off h hv => ?_) (fun h => ?_)
  · match j, h with
    | 0, h => cases h; decide
    | 1, h => cases h; decide
    | 2, h => cases h; decide
    | 3, h => cases h; decide
    | 4, h => cases h; decide
    | 5, h => cases h; decide
    | j + 6, h => simp at h
  · rw [I_toInt h1 h2] at hv
    match j, h with
    | 0, h =>
      cases h
      have e : v = 0 := by omega
      subst e
      show xX l tX10_count d 0 0 _ 0 0 48 _ _ _ _
      refine xN_ok (t := tX10_count) rfl (T := AX10_count) aX10_count 1 _ _ _ _ _ _ _ ?_
      simp only [AX10_count, oX10_count_0, oX10_count_48, oX10_count_53, oX10_count_58, oX10_count_63, oX10_count_65, oX10_count_88, oX10_count_90, oX10_count_92, oX10_count_116, oX10_count_124, oX10_count_131, oX10_count_133, rX10_count, x_iconst, x_bipush, x_sipush, x_lconst, x_iload, x_lload, x_aload, x_istore, x_lstore, x_astore, x_iinc, x_iadd, x_isub, x_imul, x_iand, x_ior, x_ixor, x_ishl, x_ishr, x_ineg, x_ladd, x_lsub, x_lmul, x_ldiv, x_lrem, x_lcmp, x_i2l, x_l2i, x_dup, x_dup_x1, x_dup2, x_if_eq, x_if_ne, x_if_lt, x_if_ge, x_if_gt, x_if_le, x_ic_eq, x_ic_ne, x_ic_lt, x_ic_ge, x_ic_gt, x_ic_le, x_goto, x_ireturn, x_lreturn, x_return, x_getfield, x_putfield, x_iaload, x_baload, x_laload, x_aaload, x_iastore, x_bastore, x_lastore, x_aastore, x_arraylength, x_newarray, x_anewarray, x_new, x_iload_0, x_iload_1, x_iload_2, x_iload_3, x_lload_0, x_lload_1, x_lload_2, x_lload_3, x_aload_0, x_aload_1, x_aload_2, x_aload_3, x_istore_0, x_istore_1, x_istore_2, x_istore_3, x_lstore_0, x_lstore_1, x_lstore_2, x_lstore_3, x_astore_0, x_astore_1, x_astore_2, x_astore_3, q_bipush_m3, q_bipush_m2, q_bipush_6, q_bipush_7, q_bipush_9, q_bipush_10, q_bipush_24, q_bipush_30, q_bipush_48, q_bipush_100, q_sipush_300, q_sipush_1000, q_sipush_24001, q_l0, q_l1, xtc_0_0, xtc_0_1, xtc_0_2, xtc_0_3, xtc_0_4, xtc_0_5, xtc_1_0, xtc_1_1, xtc_1_2, xtc_2_0, xtc_2_1, xtc_3_0, xtc_4_0, xtc_4_1, xtc_4_2, xtc_4_3, xtc_4_4, xtc_4_5, xtc_4_6, xtc_4_7, xtc_4_8, xtc_4_9, xtc_4_10, xtc_4_11, xtc_4_12, xtc_5_0, xtc_5_1, xtc_5_2, xtc_5_3, xtc_5_4, xtc_5_5, xtc_5_6, xtc_6_0, xtc_6_1, xtc_6_2, xtc_7_0, xtc_7_1, xtc_8_0, xtc_8_1, xtc_8_2, xtc_8_3, xtc_9_0, xtc_9_1, xtc_9_2, xtc_9_3, xtc_9_4, xtc_9_5, xtc_9_6, xtc_9_7, xtc_9_8, xtc_9_9, xtc_10_0, xtc_10_1, xtc_10_2, xtc_10_3, xtc_10_4, xtc_10_5, xtc_10_6, xtc_10_7, xtc_10_8, xtc_10_9, xtc_10_10, xtc_10_11, xtc_10_12, xtc_10_13, xtc_10_14, xtc_10_15, xtc_10_16, xtc_10_17, xtc_10_18, xtc_10_19, xtc_10_20, xtc_10_21, xtc_10_22, xtc_10_23, xtc_10_24, xtc_10_25, eq_self, reduceIte, Nat.reduceEqDiff, Nat.reduceAdd, Nat.reduceSub, Nat.zero_ne_one, Nat.one_ne_zero, Nat.succ_ne_zero, Nat.reduceLeDiff, reduceCtorEq, and_true, true_and, and_false, false_and, true_implies, false_implies, implies_true, not_true_eq_false, not_false_eq_true, xN_0, xN_s, xlook_c, xlook_n, xb_nil, xb_cons, xlen, xl_cons, xst_def, xst2_def, xdl_nil, xdl_int, xdl_ref, xdl_long, xrv_some, xfit_int, xfit_long, xfit_ref, cat_int, cat_ref, cat_long, xret_int, xret_bool, or_true, true_or, Option.some.injEq, Value.int.injEq, Value.ref.injEq, Value.long.injEq, List.getElem?_cons_zero, List.getElem?_cons_succ, List.set_cons_zero, List.set_cons_succ, List.length_cons, List.length_nil, xup_xup, Classical.not_not, Nat.reduceLT, Nat.zero_lt_succ, m1]
      simp [spCount]
    | 1, h =>
      cases h
      have e : v = 1 := by omega
      subst e
      show xX l tX10_count d 0 0 _ 0 0 53 _ _ _ _
      refine xN_ok (t := tX10_count) rfl (T := AX10_count) aX10_count 1 _ _ _ _ _ _ _ ?_
      simp only [AX10_count, oX10_count_0, oX10_count_48, oX10_count_53, oX10_count_58, oX10_count_63, oX10_count_65, oX10_count_88, oX10_count_90, oX10_count_92, oX10_count_116, oX10_count_124, oX10_count_131, oX10_count_133, rX10_count, x_iconst, x_bipush, x_sipush, x_lconst, x_iload, x_lload, x_aload, x_istore, x_lstore, x_astore, x_iinc, x_iadd, x_isub, x_imul, x_iand, x_ior, x_ixor, x_ishl, x_ishr, x_ineg, x_ladd, x_lsub, x_lmul, x_ldiv, x_lrem, x_lcmp, x_i2l, x_l2i, x_dup, x_dup_x1, x_dup2, x_if_eq, x_if_ne, x_if_lt, x_if_ge, x_if_gt, x_if_le, x_ic_eq, x_ic_ne, x_ic_lt, x_ic_ge, x_ic_gt, x_ic_le, x_goto, x_ireturn, x_lreturn, x_return, x_getfield, x_putfield, x_iaload, x_baload, x_laload, x_aaload, x_iastore, x_bastore, x_lastore, x_aastore, x_arraylength, x_newarray, x_anewarray, x_new, x_iload_0, x_iload_1, x_iload_2, x_iload_3, x_lload_0, x_lload_1, x_lload_2, x_lload_3, x_aload_0, x_aload_1, x_aload_2, x_aload_3, x_istore_0, x_istore_1, x_istore_2, x_istore_3, x_lstore_0, x_lstore_1, x_lstore_2, x_lstore_3, x_astore_0, x_astore_1, x_astore_2, x_astore_3, q_bipush_m3, q_bipush_m2, q_bipush_6, q_bipush_7, q_bipush_9, q_bipush_10, q_bipush_24, q_bipush_30, q_bipush_48, q_bipush_100, q_sipush_300, q_sipush_1000, q_sipush_24001, q_l0, q_l1, xtc_0_0, xtc_0_1, xtc_0_2, xtc_0_3, xtc_0_4, xtc_0_5, xtc_1_0, xtc_1_1, xtc_1_2, xtc_2_0, xtc_2_1, xtc_3_0, xtc_4_0, xtc_4_1, xtc_4_2, xtc_4_3, xtc_4_4, xtc_4_5, xtc_4_6, xtc_4_7, xtc_4_8, xtc_4_9, xtc_4_10, xtc_4_11, xtc_4_12, xtc_5_0, xtc_5_1, xtc_5_2, xtc_5_3, xtc_5_4, xtc_5_5, xtc_5_6, xtc_6_0, xtc_6_1, xtc_6_2, xtc_7_0, xtc_7_1, xtc_8_0, xtc_8_1, xtc_8_2, xtc_8_3, xtc_9_0, xtc_9_1, xtc_9_2, xtc_9_3, xtc_9_4, xtc_9_5, xtc_9_6, xtc_9_7, xtc_9_8, xtc_9_9, xtc_10_0, xtc_10_1, xtc_10_2, xtc_10_3, xtc_10_4, xtc_10_5, xtc_10_6, xtc_10_7, xtc_10_8, xtc_10_9, xtc_10_10, xtc_10_11, xtc_10_12, xtc_10_13, xtc_10_14, xtc_10_15, xtc_10_16, xtc_10_17, xtc_10_18, xtc_10_19, xtc_10_20, xtc_10_21, xtc_10_22, xtc_10_23, xtc_10_24, xtc_10_25, eq_self, reduceIte, Nat.reduceEqDiff, Nat.reduceAdd, Nat.reduceSub, Nat.zero_ne_one, Nat.one_ne_zero, Nat.succ_ne_zero, Nat.reduceLeDiff, reduceCtorEq, and_true, true_and, and_false, false_and, true_implies, false_implies, implies_true, not_true_eq_false, not_false_eq_true, xN_0, xN_s, xlook_c, xlook_n, xb_nil, xb_cons, xlen, xl_cons, xst_def, xst2_def, xdl_nil, xdl_int, xdl_ref, xdl_long, xrv_some, xfit_int, xfit_long, xfit_ref, cat_int, cat_ref, cat_long, xret_int, xret_bool, or_true, true_or, Option.some.injEq, Value.int.injEq, Value.ref.injEq, Value.long.injEq, List.getElem?_cons_zero, List.getElem?_cons_succ, List.set_cons_zero, List.set_cons_succ, List.length_cons, List.length_nil, xup_xup, Classical.not_not, Nat.reduceLT, Nat.zero_lt_succ, m1]
      simp [spCount]
    | 2, h =>
      cases h
      have e : v = 2 := by omega
      subst e
      show xX l tX10_count d 0 0 _ 0 0 58 _ _ _ _
      refine xN_ok (t := tX10_count) rfl (T := AX10_count) aX10_count 1 _ _ _ _ _ _ _ ?_
      simp only [AX10_count, oX10_count_0, oX10_count_48, oX10_count_53, oX10_count_58, oX10_count_63, oX10_count_65, oX10_count_88, oX10_count_90, oX10_count_92, oX10_count_116, oX10_count_124, oX10_count_131, oX10_count_133, rX10_count, x_iconst, x_bipush, x_sipush, x_lconst, x_iload, x_lload, x_aload, x_istore, x_lstore, x_astore, x_iinc, x_iadd, x_isub, x_imul, x_iand, x_ior, x_ixor, x_ishl, x_ishr, x_ineg, x_ladd, x_lsub, x_lmul, x_ldiv, x_lrem, x_lcmp, x_i2l, x_l2i, x_dup, x_dup_x1, x_dup2, x_if_eq, x_if_ne, x_if_lt, x_if_ge, x_if_gt, x_if_le, x_ic_eq, x_ic_ne, x_ic_lt, x_ic_ge, x_ic_gt, x_ic_le, x_goto, x_ireturn, x_lreturn, x_return, x_getfield, x_putfield, x_iaload, x_baload, x_laload, x_aaload, x_iastore, x_bastore, x_lastore, x_aastore, x_arraylength, x_newarray, x_anewarray, x_new, x_iload_0, x_iload_1, x_iload_2, x_iload_3, x_lload_0, x_lload_1, x_lload_2, x_lload_3, x_aload_0, x_aload_1, x_aload_2, x_aload_3, x_istore_0, x_istore_1, x_istore_2, x_istore_3, x_lstore_0, x_lstore_1, x_lstore_2, x_lstore_3, x_astore_0, x_astore_1, x_astore_2, x_astore_3, q_bipush_m3, q_bipush_m2, q_bipush_6, q_bipush_7, q_bipush_9, q_bipush_10, q_bipush_24, q_bipush_30, q_bipush_48, q_bipush_100, q_sipush_300, q_sipush_1000, q_sipush_24001, q_l0, q_l1, xtc_0_0, xtc_0_1, xtc_0_2, xtc_0_3, xtc_0_4, xtc_0_5, xtc_1_0, xtc_1_1, xtc_1_2, xtc_2_0, xtc_2_1, xtc_3_0, xtc_4_0, xtc_4_1, xtc_4_2, xtc_4_3, xtc_4_4, xtc_4_5, xtc_4_6, xtc_4_7, xtc_4_8, xtc_4_9, xtc_4_10, xtc_4_11, xtc_4_12, xtc_5_0, xtc_5_1, xtc_5_2, xtc_5_3, xtc_5_4, xtc_5_5, xtc_5_6, xtc_6_0, xtc_6_1, xtc_6_2, xtc_7_0, xtc_7_1, xtc_8_0, xtc_8_1, xtc_8_2, xtc_8_3, xtc_9_0, xtc_9_1, xtc_9_2, xtc_9_3, xtc_9_4, xtc_9_5, xtc_9_6, xtc_9_7, xtc_9_8, xtc_9_9, xtc_10_0, xtc_10_1, xtc_10_2, xtc_10_3, xtc_10_4, xtc_10_5, xtc_10_6, xtc_10_7, xtc_10_8, xtc_10_9, xtc_10_10, xtc_10_11, xtc_10_12, xtc_10_13, xtc_10_14, xtc_10_15, xtc_10_16, xtc_10_17, xtc_10_18, xtc_10_19, xtc_10_20, xtc_10_21, xtc_10_22, xtc_10_23, xtc_10_24, xtc_10_25, eq_self, reduceIte, Nat.reduceEqDiff, Nat.reduceAdd, Nat.reduceSub, Nat.zero_ne_one, Nat.one_ne_zero, Nat.succ_ne_zero, Nat.reduceLeDiff, reduceCtorEq, and_true, true_and, and_false, false_and, true_implies, false_implies, implies_true, not_true_eq_false, not_false_eq_true, xN_0, xN_s, xlook_c, xlook_n, xb_nil, xb_cons, xlen, xl_cons, xst_def, xst2_def, xdl_nil, xdl_int, xdl_ref, xdl_long, xrv_some, xfit_int, xfit_long, xfit_ref, cat_int, cat_ref, cat_long, xret_int, xret_bool, or_true, true_or, Option.some.injEq, Value.int.injEq, Value.ref.injEq, Value.long.injEq, List.getElem?_cons_zero, List.getElem?_cons_succ, List.set_cons_zero, List.set_cons_succ, List.length_cons, List.length_nil, xup_xup, Classical.not_not, Nat.reduceLT, Nat.zero_lt_succ, m1]
      simp [spCount]
    | 3, h =>
      cases h
      have e : v = 3 := by omega
      subst e
      show xX l tX10_count d 0 0 _ 0 0 63 _ _ _ _
      have loop : ∀ j i : Nat, i + j = S.na → xX l tX10_count d 0 0 (fun r n' ws' => r = some (.int (I (spCount S 3))) ∧ n' = n ∧ ws' = ws) 0 0 65 [(0, .ref 121), (2, .int (I (sm (S.2 2) i))), (3, .int (I i))] [] n ws := by
        intro j
        induction j with
        | zero =>
          intro i hi
          have e : i = S.na := by omega
          refine xL_ok (t := tX10_count) rfl (ops := oX10_count_65) (by decide +kernel) (T := [(0, oX10_count_0), (48, oX10_count_48), (53, oX10_count_53), (58, oX10_count_58), (63, oX10_count_63), (88, oX10_count_88), (90, oX10_count_90), (92, oX10_count_92), (116, oX10_count_116), (124, oX10_count_124), (131, oX10_count_131), (133, oX10_count_133)]) (by decide +kernel) 1 ?_
          simp only [oX10_count_0, oX10_count_48, oX10_count_53, oX10_count_58, oX10_count_63, oX10_count_88, oX10_count_90, oX10_count_92, oX10_count_116, oX10_count_124, oX10_count_131, oX10_count_133, oX10_count_65, rX10_count, x_iconst, x_bipush, x_sipush, x_lconst, x_iload, x_lload, x_aload, x_istore, x_lstore, x_astore, x_iinc, x_iadd, x_isub, x_imul, x_iand, x_ior, x_ixor, x_ishl, x_ishr, x_ineg, x_ladd, x_lsub, x_lmul, x_ldiv, x_lrem, x_lcmp, x_i2l, x_l2i, x_dup, x_dup_x1, x_dup2, x_if_eq, x_if_ne, x_if_lt, x_if_ge, x_if_gt, x_if_le, x_ic_eq, x_ic_ne, x_ic_lt, x_ic_ge, x_ic_gt, x_ic_le, x_goto, x_ireturn, x_lreturn, x_return, x_getfield, x_putfield, x_iaload, x_baload, x_laload, x_aaload, x_iastore, x_bastore, x_lastore, x_aastore, x_arraylength, x_newarray, x_anewarray, x_new, x_iload_0, x_iload_1, x_iload_2, x_iload_3, x_lload_0, x_lload_1, x_lload_2, x_lload_3, x_aload_0, x_aload_1, x_aload_2, x_aload_3, x_istore_0, x_istore_1, x_istore_2, x_istore_3, x_lstore_0, x_lstore_1, x_lstore_2, x_lstore_3, x_astore_0, x_astore_1, x_astore_2, x_astore_3, q_bipush_m3, q_bipush_m2, q_bipush_6, q_bipush_7, q_bipush_9, q_bipush_10, q_bipush_24, q_bipush_30, q_bipush_48, q_bipush_100, q_sipush_300, q_sipush_1000, q_sipush_24001, q_l0, q_l1, xtc_0_0, xtc_0_1, xtc_0_2, xtc_0_3, xtc_0_4, xtc_0_5, xtc_1_0, xtc_1_1, xtc_1_2, xtc_2_0, xtc_2_1, xtc_3_0, xtc_4_0, xtc_4_1, xtc_4_2, xtc_4_3, xtc_4_4, xtc_4_5, xtc_4_6, xtc_4_7, xtc_4_8, xtc_4_9, xtc_4_10, xtc_4_11, xtc_4_12, xtc_5_0, xtc_5_1, xtc_5_2, xtc_5_3, xtc_5_4, xtc_5_5, xtc_5_6, xtc_6_0, xtc_6_1, xtc_6_2, xtc_7_0, xtc_7_1, xtc_8_0, xtc_8_1, xtc_8_2, xtc_8_3, xtc_9_0, xtc_9_1, xtc_9_2, xtc_9_3, xtc_9_4, xtc_9_5, xtc_9_6, xtc_9_7, xtc_9_8, xtc_9_9, xtc_10_0, xtc_10_1, xtc_10_2, xtc_10_3, xtc_10_4, xtc_10_5, xtc_10_6, xtc_10_7, xtc_10_8, xtc_10_9, xtc_10_10, xtc_10_11, xtc_10_12, xtc_10_13, xtc_10_14, xtc_10_15, xtc_10_16, xtc_10_17, xtc_10_18, xtc_10_19, xtc_10_20, xtc_10_21, xtc_10_22, xtc_10_23, xtc_10_24, xtc_10_25, eq_self, reduceIte, Nat.reduceEqDiff, Nat.reduceAdd, Nat.reduceSub, Nat.zero_ne_one, Nat.one_ne_zero, Nat.succ_ne_zero, Nat.reduceLeDiff, reduceCtorEq, and_true, true_and, and_false, false_and, true_implies, false_implies, implies_true, not_true_eq_false, not_false_eq_true, xN_0, xN_s, xlook_c, xlook_n, xb_nil, xb_cons, xlen, xl_cons, xst_def, xst2_def, xdl_nil, xdl_int, xdl_ref, xdl_long, xrv_some, xfit_int, xfit_long, xfit_ref, cat_int, cat_ref, cat_long, xret_int, xret_bool, or_true, true_or, Option.some.injEq, Value.int.injEq, Value.ref.injEq, Value.long.injEq, List.getElem?_cons_zero, List.getElem?_cons_succ, List.set_cons_zero, List.set_cons_succ, List.length_cons, List.length_nil, xup_xup, Classical.not_not, Nat.reduceLT, Nat.zero_lt_succ, m1, m4, ra_len]
          simp (disch := omega) only [I_lt, I_le, I_eq, I_in, I_add, I_sub, I_mul, I_b0, I_b01, b_eq0, b_eq1, Classical.not_not, ra_get, ra_set, ra_len, Int.toNat_natCast, eq_self, true_and, and_true, ne_eq, not_false_eq_true, not_true_eq_false]
          exact ⟨fun _ => by simp [spCount, e], fun h => absurd h (by omega)⟩
        | succ j ih =>
          intro i hi
          refine xL_ok (t := tX10_count) rfl (ops := oX10_count_65) (by decide +kernel) (T := [(0, oX10_count_0), (48, oX10_count_48), (53, oX10_count_53), (58, oX10_count_58), (63, oX10_count_63), (88, oX10_count_88), (90, oX10_count_90), (92, oX10_count_92), (116, oX10_count_116), (124, oX10_count_124), (131, oX10_count_131), (133, oX10_count_133)]) (by decide +kernel) 1 ?_
          simp only [oX10_count_0, oX10_count_48, oX10_count_53, oX10_count_58, oX10_count_63, oX10_count_88, oX10_count_90, oX10_count_92, oX10_count_116, oX10_count_124, oX10_count_131, oX10_count_133, oX10_count_65, rX10_count, x_iconst, x_bipush, x_sipush, x_lconst, x_iload, x_lload, x_aload, x_istore, x_lstore, x_astore, x_iinc, x_iadd, x_isub, x_imul, x_iand, x_ior, x_ixor, x_ishl, x_ishr, x_ineg, x_ladd, x_lsub, x_lmul, x_ldiv, x_lrem, x_lcmp, x_i2l, x_l2i, x_dup, x_dup_x1, x_dup2, x_if_eq, x_if_ne, x_if_lt, x_if_ge, x_if_gt, x_if_le, x_ic_eq, x_ic_ne, x_ic_lt, x_ic_ge, x_ic_gt, x_ic_le, x_goto, x_ireturn, x_lreturn, x_return, x_getfield, x_putfield, x_iaload, x_baload, x_laload, x_aaload, x_iastore, x_bastore, x_lastore, x_aastore, x_arraylength, x_newarray, x_anewarray, x_new, x_iload_0, x_iload_1, x_iload_2, x_iload_3, x_lload_0, x_lload_1, x_lload_2, x_lload_3, x_aload_0, x_aload_1, x_aload_2, x_aload_3, x_istore_0, x_istore_1, x_istore_2, x_istore_3, x_lstore_0, x_lstore_1, x_lstore_2, x_lstore_3, x_astore_0, x_astore_1, x_astore_2, x_astore_3, q_bipush_m3, q_bipush_m2, q_bipush_6, q_bipush_7, q_bipush_9, q_bipush_10, q_bipush_24, q_bipush_30, q_bipush_48, q_bipush_100, q_sipush_300, q_sipush_1000, q_sipush_24001, q_l0, q_l1, xtc_0_0, xtc_0_1, xtc_0_2, xtc_0_3, xtc_0_4, xtc_0_5, xtc_1_0, xtc_1_1, xtc_1_2, xtc_2_0, xtc_2_1, xtc_3_0, xtc_4_0, xtc_4_1, xtc_4_2, xtc_4_3, xtc_4_4, xtc_4_5, xtc_4_6, xtc_4_7, xtc_4_8, xtc_4_9, xtc_4_10, xtc_4_11, xtc_4_12, xtc_5_0, xtc_5_1, xtc_5_2, xtc_5_3, xtc_5_4, xtc_5_5, xtc_5_6, xtc_6_0, xtc_6_1, xtc_6_2, xtc_7_0, xtc_7_1, xtc_8_0, xtc_8_1, xtc_8_2, xtc_8_3, xtc_9_0, xtc_9_1, xtc_9_2, xtc_9_3, xtc_9_4, xtc_9_5, xtc_9_6, xtc_9_7, xtc_9_8, xtc_9_9, xtc_10_0, xtc_10_1, xtc_10_2, xtc_10_3, xtc_10_4, xtc_10_5, xtc_10_6, xtc_10_7, xtc_10_8, xtc_10_9, xtc_10_10, xtc_10_11, xtc_10_12, xtc_10_13, xtc_10_14, xtc_10_15, xtc_10_16, xtc_10_17, xtc_10_18, xtc_10_19, xtc_10_20, xtc_10_21, xtc_10_22, xtc_10_23, xtc_10_24, xtc_10_25, eq_self, reduceIte, Nat.reduceEqDiff, Nat.reduceAdd, Nat.reduceSub, Nat.zero_ne_one, Nat.one_ne_zero, Nat.succ_ne_zero, Nat.reduceLeDiff, reduceCtorEq, and_true, true_and, and_false, false_and, true_implies, false_implies, implies_true, not_true_eq_false, not_false_eq_true, xN_0, xN_s, xlook_c, xlook_n, xb_nil, xb_cons, xlen, xl_cons, xst_def, xst2_def, xdl_nil, xdl_int, xdl_ref, xdl_long, xrv_some, xfit_int, xfit_long, xfit_ref, cat_int, cat_ref, cat_long, xret_int, xret_bool, or_true, true_or, Option.some.injEq, Value.int.injEq, Value.ref.injEq, Value.long.injEq, List.getElem?_cons_zero, List.getElem?_cons_succ, List.set_cons_zero, List.set_cons_succ, List.length_cons, List.length_nil, xup_xup, Classical.not_not, Nat.reduceLT, Nat.zero_lt_succ, m1, m4, ra_len]
          simp (disch := omega) only [I_lt, I_le, I_eq, I_in, I_add, I_sub, I_mul, I_b0, I_b01, b_eq0, b_eq1, Classical.not_not, ra_get, ra_set, ra_len, Int.toNat_natCast, eq_self, true_and, and_true, ne_eq, not_false_eq_true, not_true_eq_false]
          exact ⟨fun h => absurd h (by omega), fun _ => ⟨by omega, xX.loc _ (by simp [sm]) (ih (i + 1) (by omega))⟩⟩
      refine xN_ok (t := tX10_count) rfl (T := AX10_count) aX10_count 1 _ _ _ _ _ _ _ ?_
      simp only [AX10_count, oX10_count_0, oX10_count_48, oX10_count_53, oX10_count_58, oX10_count_63, oX10_count_65, oX10_count_88, oX10_count_90, oX10_count_92, oX10_count_116, oX10_count_124, oX10_count_131, oX10_count_133, rX10_count, x_iconst, x_bipush, x_sipush, x_lconst, x_iload, x_lload, x_aload, x_istore, x_lstore, x_astore, x_iinc, x_iadd, x_isub, x_imul, x_iand, x_ior, x_ixor, x_ishl, x_ishr, x_ineg, x_ladd, x_lsub, x_lmul, x_ldiv, x_lrem, x_lcmp, x_i2l, x_l2i, x_dup, x_dup_x1, x_dup2, x_if_eq, x_if_ne, x_if_lt, x_if_ge, x_if_gt, x_if_le, x_ic_eq, x_ic_ne, x_ic_lt, x_ic_ge, x_ic_gt, x_ic_le, x_goto, x_ireturn, x_lreturn, x_return, x_getfield, x_putfield, x_iaload, x_baload, x_laload, x_aaload, x_iastore, x_bastore, x_lastore, x_aastore, x_arraylength, x_newarray, x_anewarray, x_new, x_iload_0, x_iload_1, x_iload_2, x_iload_3, x_lload_0, x_lload_1, x_lload_2, x_lload_3, x_aload_0, x_aload_1, x_aload_2, x_aload_3, x_istore_0, x_istore_1, x_istore_2, x_istore_3, x_lstore_0, x_lstore_1, x_lstore_2, x_lstore_3, x_astore_0, x_astore_1, x_astore_2, x_astore_3, q_bipush_m3, q_bipush_m2, q_bipush_6, q_bipush_7, q_bipush_9, q_bipush_10, q_bipush_24, q_bipush_30, q_bipush_48, q_bipush_100, q_sipush_300, q_sipush_1000, q_sipush_24001, q_l0, q_l1, xtc_0_0, xtc_0_1, xtc_0_2, xtc_0_3, xtc_0_4, xtc_0_5, xtc_1_0, xtc_1_1, xtc_1_2, xtc_2_0, xtc_2_1, xtc_3_0, xtc_4_0, xtc_4_1, xtc_4_2, xtc_4_3, xtc_4_4, xtc_4_5, xtc_4_6, xtc_4_7, xtc_4_8, xtc_4_9, xtc_4_10, xtc_4_11, xtc_4_12, xtc_5_0, xtc_5_1, xtc_5_2, xtc_5_3, xtc_5_4, xtc_5_5, xtc_5_6, xtc_6_0, xtc_6_1, xtc_6_2, xtc_7_0, xtc_7_1, xtc_8_0, xtc_8_1, xtc_8_2, xtc_8_3, xtc_9_0, xtc_9_1, xtc_9_2, xtc_9_3, xtc_9_4, xtc_9_5, xtc_9_6, xtc_9_7, xtc_9_8, xtc_9_9, xtc_10_0, xtc_10_1, xtc_10_2, xtc_10_3, xtc_10_4, xtc_10_5, xtc_10_6, xtc_10_7, xtc_10_8, xtc_10_9, xtc_10_10, xtc_10_11, xtc_10_12, xtc_10_13, xtc_10_14, xtc_10_15, xtc_10_16, xtc_10_17, xtc_10_18, xtc_10_19, xtc_10_20, xtc_10_21, xtc_10_22, xtc_10_23, xtc_10_24, xtc_10_25, eq_self, reduceIte, Nat.reduceEqDiff, Nat.reduceAdd, Nat.reduceSub, Nat.zero_ne_one, Nat.one_ne_zero, Nat.succ_ne_zero, Nat.reduceLeDiff, reduceCtorEq, and_true, true_and, and_false, false_and, true_implies, false_implies, implies_true, not_true_eq_false, not_false_eq_true, xN_0, xN_s, xlook_c, xlook_n, xb_nil, xb_cons, xlen, xl_cons, xst_def, xst2_def, xdl_nil, xdl_int, xdl_ref, xdl_long, xrv_some, xfit_int, xfit_long, xfit_ref, cat_int, cat_ref, cat_long, xret_int, xret_bool, or_true, true_or, Option.some.injEq, Value.int.injEq, Value.ref.injEq, Value.long.injEq, List.getElem?_cons_zero, List.getElem?_cons_succ, List.set_cons_zero, List.set_cons_succ, List.length_cons, List.length_nil, xup_xup, Classical.not_not, Nat.reduceLT, Nat.zero_lt_succ]
      exact xX.loc _ (by simp [sm]) (loop S.na 0 (by omega))
    | 4, h =>
      cases h
      have e : v = 4 := by omega
      subst e
      show xX l tX10_count d 0 0 _ 0 0 90 _ _ _ _
      have loop : ∀ j i : Nat, i + j = S.ng → xX l tX10_count d 0 0 (fun r n' ws' => r = some (.int (I (spCount S 4))) ∧ n' = n ∧ ws' = ws) 0 0 92 [(0, .ref 121), (1, .int (I 4)), (2, .int (I (sm (S.2 6) i))), (3, .int (I i))] [] n ws := by
        intro j
        induction j with
        | zero =>
          intro i hi
          have e : i = S.ng := by omega
          refine xL_ok (t := tX10_count) rfl (ops := oX10_count_92) (by decide +kernel) (T := [(0, oX10_count_0), (48, oX10_count_48), (53, oX10_count_53), (58, oX10_count_58), (63, oX10_count_63), (65, oX10_count_65), (88, oX10_count_88), (90, oX10_count_90), (116, oX10_count_116), (124, oX10_count_124), (131, oX10_count_131), (133, oX10_count_133)]) (by decide +kernel) 1 ?_
          simp only [oX10_count_0, oX10_count_48, oX10_count_53, oX10_count_58, oX10_count_63, oX10_count_65, oX10_count_88, oX10_count_90, oX10_count_116, oX10_count_124, oX10_count_131, oX10_count_133, oX10_count_92, rX10_count, x_iconst, x_bipush, x_sipush, x_lconst, x_iload, x_lload, x_aload, x_istore, x_lstore, x_astore, x_iinc, x_iadd, x_isub, x_imul, x_iand, x_ior, x_ixor, x_ishl, x_ishr, x_ineg, x_ladd, x_lsub, x_lmul, x_ldiv, x_lrem, x_lcmp, x_i2l, x_l2i, x_dup, x_dup_x1, x_dup2, x_if_eq, x_if_ne, x_if_lt, x_if_ge, x_if_gt, x_if_le, x_ic_eq, x_ic_ne, x_ic_lt, x_ic_ge, x_ic_gt, x_ic_le, x_goto, x_ireturn, x_lreturn, x_return, x_getfield, x_putfield, x_iaload, x_baload, x_laload, x_aaload, x_iastore, x_bastore, x_lastore, x_aastore, x_arraylength, x_newarray, x_anewarray, x_new, x_iload_0, x_iload_1, x_iload_2, x_iload_3, x_lload_0, x_lload_1, x_lload_2, x_lload_3, x_aload_0, x_aload_1, x_aload_2, x_aload_3, x_istore_0, x_istore_1, x_istore_2, x_istore_3, x_lstore_0, x_lstore_1, x_lstore_2, x_lstore_3, x_astore_0, x_astore_1, x_astore_2, x_astore_3, q_bipush_m3, q_bipush_m2, q_bipush_6, q_bipush_7, q_bipush_9, q_bipush_10, q_bipush_24, q_bipush_30, q_bipush_48, q_bipush_100, q_sipush_300, q_sipush_1000, q_sipush_24001, q_l0, q_l1, xtc_0_0, xtc_0_1, xtc_0_2, xtc_0_3, xtc_0_4, xtc_0_5, xtc_1_0, xtc_1_1, xtc_1_2, xtc_2_0, xtc_2_1, xtc_3_0, xtc_4_0, xtc_4_1, xtc_4_2, xtc_4_3, xtc_4_4, xtc_4_5, xtc_4_6, xtc_4_7, xtc_4_8, xtc_4_9, xtc_4_10, xtc_4_11, xtc_4_12, xtc_5_0, xtc_5_1, xtc_5_2, xtc_5_3, xtc_5_4, xtc_5_5, xtc_5_6, xtc_6_0, xtc_6_1, xtc_6_2, xtc_7_0, xtc_7_1, xtc_8_0, xtc_8_1, xtc_8_2, xtc_8_3, xtc_9_0, xtc_9_1, xtc_9_2, xtc_9_3, xtc_9_4, xtc_9_5, xtc_9_6, xtc_9_7, xtc_9_8, xtc_9_9, xtc_10_0, xtc_10_1, xtc_10_2, xtc_10_3, xtc_10_4, xtc_10_5, xtc_10_6, xtc_10_7, xtc_10_8, xtc_10_9, xtc_10_10, xtc_10_11, xtc_10_12, xtc_10_13, xtc_10_14, xtc_10_15, xtc_10_16, xtc_10_17, xtc_10_18, xtc_10_19, xtc_10_20, xtc_10_21, xtc_10_22, xtc_10_23, xtc_10_24, xtc_10_25, eq_self, reduceIte, Nat.reduceEqDiff, Nat.reduceAdd, Nat.reduceSub, Nat.zero_ne_one, Nat.one_ne_zero, Nat.succ_ne_zero, Nat.reduceLeDiff, reduceCtorEq, and_true, true_and, and_false, false_and, true_implies, false_implies, implies_true, not_true_eq_false, not_false_eq_true, xN_0, xN_s, xlook_c, xlook_n, xb_nil, xb_cons, xlen, xl_cons, xst_def, xst2_def, xdl_nil, xdl_int, xdl_ref, xdl_long, xrv_some, xfit_int, xfit_long, xfit_ref, cat_int, cat_ref, cat_long, xret_int, xret_bool, or_true, true_or, Option.some.injEq, Value.int.injEq, Value.ref.injEq, Value.long.injEq, List.getElem?_cons_zero, List.getElem?_cons_succ, List.set_cons_zero, List.set_cons_succ, List.length_cons, List.length_nil, xup_xup, Classical.not_not, Nat.reduceLT, Nat.zero_lt_succ, m1, m8, ra_len]
          simp (disch := omega) only [I_lt, I_le, I_eq, I_in, I_add, I_sub, I_mul, I_b0, I_b01, b_eq0, b_eq1, Classical.not_not, ra_get, ra_set, ra_len, Int.toNat_natCast, eq_self, true_and, and_true, ne_eq, not_false_eq_true, not_true_eq_false]
          exact ⟨fun _ => by simp [spCount, e], fun h => absurd h (by omega)⟩
        | succ j ih =>
          intro i hi
          refine xL_ok (t := tX10_count) rfl (ops := oX10_count_92) (by decide +kernel) (T := [(0, oX10_count_0), (48, oX10_count_48), (53, oX10_count_53), (58, oX10_count_58), (63, oX10_count_63), (65, oX10_count_65), (88, oX10_count_88), (90, oX10_count_90), (116, oX10_count_116), (124, oX10_count_124), (131, oX10_count_131), (133, oX10_count_133)]) (by decide +kernel) 2 ?_
          simp only [oX10_count_0, oX10_count_48, oX10_count_53, oX10_count_58, oX10_count_63, oX10_count_65, oX10_count_88, oX10_count_90, oX10_count_116, oX10_count_124, oX10_count_131, oX10_count_133, oX10_count_92, rX10_count, x_iconst, x_bipush, x_sipush, x_lconst, x_iload, x_lload, x_aload, x_istore, x_lstore, x_astore, x_iinc, x_iadd, x_isub, x_imul, x_iand, x_ior, x_ixor, x_ishl, x_ishr, x_ineg, x_ladd, x_lsub, x_lmul, x_ldiv, x_lrem, x_lcmp, x_i2l, x_l2i, x_dup, x_dup_x1, x_dup2, x_if_eq, x_if_ne, x_if_lt, x_if_ge, x_if_gt, x_if_le, x_ic_eq, x_ic_ne, x_ic_lt, x_ic_ge, x_ic_gt, x_ic_le, x_goto, x_ireturn, x_lreturn, x_return, x_getfield, x_putfield, x_iaload, x_baload, x_laload, x_aaload, x_iastore, x_bastore, x_lastore, x_aastore, x_arraylength, x_newarray, x_anewarray, x_new, x_iload_0, x_iload_1, x_iload_2, x_iload_3, x_lload_0, x_lload_1, x_lload_2, x_lload_3, x_aload_0, x_aload_1, x_aload_2, x_aload_3, x_istore_0, x_istore_1, x_istore_2, x_istore_3, x_lstore_0, x_lstore_1, x_lstore_2, x_lstore_3, x_astore_0, x_astore_1, x_astore_2, x_astore_3, q_bipush_m3, q_bipush_m2, q_bipush_6, q_bipush_7, q_bipush_9, q_bipush_10, q_bipush_24, q_bipush_30, q_bipush_48, q_bipush_100, q_sipush_300, q_sipush_1000, q_sipush_24001, q_l0, q_l1, xtc_0_0, xtc_0_1, xtc_0_2, xtc_0_3, xtc_0_4, xtc_0_5, xtc_1_0, xtc_1_1, xtc_1_2, xtc_2_0, xtc_2_1, xtc_3_0, xtc_4_0, xtc_4_1, xtc_4_2, xtc_4_3, xtc_4_4, xtc_4_5, xtc_4_6, xtc_4_7, xtc_4_8, xtc_4_9, xtc_4_10, xtc_4_11, xtc_4_12, xtc_5_0, xtc_5_1, xtc_5_2, xtc_5_3, xtc_5_4, xtc_5_5, xtc_5_6, xtc_6_0, xtc_6_1, xtc_6_2, xtc_7_0, xtc_7_1, xtc_8_0, xtc_8_1, xtc_8_2, xtc_8_3, xtc_9_0, xtc_9_1, xtc_9_2, xtc_9_3, xtc_9_4, xtc_9_5, xtc_9_6, xtc_9_7, xtc_9_8, xtc_9_9, xtc_10_0, xtc_10_1, xtc_10_2, xtc_10_3, xtc_10_4, xtc_10_5, xtc_10_6, xtc_10_7, xtc_10_8, xtc_10_9, xtc_10_10, xtc_10_11, xtc_10_12, xtc_10_13, xtc_10_14, xtc_10_15, xtc_10_16, xtc_10_17, xtc_10_18, xtc_10_19, xtc_10_20, xtc_10_21, xtc_10_22, xtc_10_23, xtc_10_24, xtc_10_25, eq_self, reduceIte, Nat.reduceEqDiff, Nat.reduceAdd, Nat.reduceSub, Nat.zero_ne_one, Nat.one_ne_zero, Nat.succ_ne_zero, Nat.reduceLeDiff, reduceCtorEq, and_true, true_and, and_false, false_and, true_implies, false_implies, implies_true, not_true_eq_false, not_false_eq_true, xN_0, xN_s, xlook_c, xlook_n, xb_nil, xb_cons, xlen, xl_cons, xst_def, xst2_def, xdl_nil, xdl_int, xdl_ref, xdl_long, xrv_some, xfit_int, xfit_long, xfit_ref, cat_int, cat_ref, cat_long, xret_int, xret_bool, or_true, true_or, Option.some.injEq, Value.int.injEq, Value.ref.injEq, Value.long.injEq, List.getElem?_cons_zero, List.getElem?_cons_succ, List.set_cons_zero, List.set_cons_succ, List.length_cons, List.length_nil, xup_xup, Classical.not_not, Nat.reduceLT, Nat.zero_lt_succ, m1, m8, ra_len]
          simp (disch := omega) only [I_lt, I_le, I_eq, I_in, I_add, I_sub, I_mul, I_b0, I_b01, b_eq0, b_eq1, Classical.not_not, ra_get, ra_set, ra_len, Int.toNat_natCast, eq_self, true_and, and_true, ne_eq, not_false_eq_true, not_true_eq_false]
          exact ⟨fun h => absurd h (by omega), fun _ => ⟨by omega, xX.loc _ (by simp [sm]) (ih (i + 1) (by omega))⟩⟩
      refine xN_ok (t := tX10_count) rfl (T := AX10_count) aX10_count 1 _ _ _ _ _ _ _ ?_
      simp only [AX10_count, oX10_count_0, oX10_count_48, oX10_count_53, oX10_count_58, oX10_count_63, oX10_count_65, oX10_count_88, oX10_count_90, oX10_count_92, oX10_count_116, oX10_count_124, oX10_count_131, oX10_count_133, rX10_count, x_iconst, x_bipush, x_sipush, x_lconst, x_iload, x_lload, x_aload, x_istore, x_lstore, x_astore, x_iinc, x_iadd, x_isub, x_imul, x_iand, x_ior, x_ixor, x_ishl, x_ishr, x_ineg, x_ladd, x_lsub, x_lmul, x_ldiv, x_lrem, x_lcmp, x_i2l, x_l2i, x_dup, x_dup_x1, x_dup2, x_if_eq, x_if_ne, x_if_lt, x_if_ge, x_if_gt, x_if_le, x_ic_eq, x_ic_ne, x_ic_lt, x_ic_ge, x_ic_gt, x_ic_le, x_goto, x_ireturn, x_lreturn, x_return, x_getfield, x_putfield, x_iaload, x_baload, x_laload, x_aaload, x_iastore, x_bastore, x_lastore, x_aastore, x_arraylength, x_newarray, x_anewarray, x_new, x_iload_0, x_iload_1, x_iload_2, x_iload_3, x_lload_0, x_lload_1, x_lload_2, x_lload_3, x_aload_0, x_aload_1, x_aload_2, x_aload_3, x_istore_0, x_istore_1, x_istore_2, x_istore_3, x_lstore_0, x_lstore_1, x_lstore_2, x_lstore_3, x_astore_0, x_astore_1, x_astore_2, x_astore_3, q_bipush_m3, q_bipush_m2, q_bipush_6, q_bipush_7, q_bipush_9, q_bipush_10, q_bipush_24, q_bipush_30, q_bipush_48, q_bipush_100, q_sipush_300, q_sipush_1000, q_sipush_24001, q_l0, q_l1, xtc_0_0, xtc_0_1, xtc_0_2, xtc_0_3, xtc_0_4, xtc_0_5, xtc_1_0, xtc_1_1, xtc_1_2, xtc_2_0, xtc_2_1, xtc_3_0, xtc_4_0, xtc_4_1, xtc_4_2, xtc_4_3, xtc_4_4, xtc_4_5, xtc_4_6, xtc_4_7, xtc_4_8, xtc_4_9, xtc_4_10, xtc_4_11, xtc_4_12, xtc_5_0, xtc_5_1, xtc_5_2, xtc_5_3, xtc_5_4, xtc_5_5, xtc_5_6, xtc_6_0, xtc_6_1, xtc_6_2, xtc_7_0, xtc_7_1, xtc_8_0, xtc_8_1, xtc_8_2, xtc_8_3, xtc_9_0, xtc_9_1, xtc_9_2, xtc_9_3, xtc_9_4, xtc_9_5, xtc_9_6, xtc_9_7, xtc_9_8, xtc_9_9, xtc_10_0, xtc_10_1, xtc_10_2, xtc_10_3, xtc_10_4, xtc_10_5, xtc_10_6, xtc_10_7, xtc_10_8, xtc_10_9, xtc_10_10, xtc_10_11, xtc_10_12, xtc_10_13, xtc_10_14, xtc_10_15, xtc_10_16, xtc_10_17, xtc_10_18, xtc_10_19, xtc_10_20, xtc_10_21, xtc_10_22, xtc_10_23, xtc_10_24, xtc_10_25, eq_self, reduceIte, Nat.reduceEqDiff, Nat.reduceAdd, Nat.reduceSub, Nat.zero_ne_one, Nat.one_ne_zero, Nat.succ_ne_zero, Nat.reduceLeDiff, reduceCtorEq, and_true, true_and, and_false, false_and, true_implies, false_implies, implies_true, not_true_eq_false, not_false_eq_true, xN_0, xN_s, xlook_c, xlook_n, xb_nil, xb_cons, xlen, xl_cons, xst_def, xst2_def, xdl_nil, xdl_int, xdl_ref, xdl_long, xrv_some, xfit_int, xfit_long, xfit_ref, cat_int, cat_ref, cat_long, xret_int, xret_bool, or_true, true_or, Option.some.injEq, Value.int.injEq, Value.ref.injEq, Value.long.injEq, List.getElem?_cons_zero, List.getElem?_cons_succ, List.set_cons_zero, List.set_cons_succ, List.length_cons, List.length_nil, xup_xup, Classical.not_not, Nat.reduceLT, Nat.zero_lt_succ]
      exact xX.loc _ (by simp [sm]) (loop S.ng 0 (by omega))
    | 5, h =>
      cases h
      have e : v = 5 := by omega
      subst e
      show xX l tX10_count d 0 0 _ 0 0 90 _ _ _ _
      have loop : ∀ j i : Nat, i + j = S.ng → xX l tX10_count d 0 0 (fun r n' ws' => r = some (.int (I (spCount S 5))) ∧ n' = n ∧ ws' = ws) 0 0 92 [(0, .ref 121), (1, .int (I 5)), (2, .int (I (sm (S.2 7) i))), (3, .int (I i))] [] n ws := by
        intro j
        induction j with
        | zero =>
          intro i hi
          have e : i = S.ng := by omega
          refine xL_ok (t := tX10_count) rfl (ops := oX10_count_92) (by decide +kernel) (T := [(0, oX10_count_0), (48, oX10_count_48), (53, oX10_count_53), (58, oX10_count_58), (63, oX10_count_63), (65, oX10_count_65), (88, oX10_count_88), (90, oX10_count_90), (116, oX10_count_116), (124, oX10_count_124), (131, oX10_count_131), (133, oX10_count_133)]) (by decide +kernel) 1 ?_
          simp only [oX10_count_0, oX10_count_48, oX10_count_53, oX10_count_58, oX10_count_63, oX10_count_65, oX10_count_88, oX10_count_90, oX10_count_116, oX10_count_124, oX10_count_131, oX10_count_133, oX10_count_92, rX10_count, x_iconst, x_bipush, x_sipush, x_lconst, x_iload, x_lload, x_aload, x_istore, x_lstore, x_astore, x_iinc, x_iadd, x_isub, x_imul, x_iand, x_ior, x_ixor, x_ishl, x_ishr, x_ineg, x_ladd, x_lsub, x_lmul, x_ldiv, x_lrem, x_lcmp, x_i2l, x_l2i, x_dup, x_dup_x1, x_dup2, x_if_eq, x_if_ne, x_if_lt, x_if_ge, x_if_gt, x_if_le, x_ic_eq, x_ic_ne, x_ic_lt, x_ic_ge, x_ic_gt, x_ic_le, x_goto, x_ireturn, x_lreturn, x_return, x_getfield, x_putfield, x_iaload, x_baload, x_laload, x_aaload, x_iastore, x_bastore, x_lastore, x_aastore, x_arraylength, x_newarray, x_anewarray, x_new, x_iload_0, x_iload_1, x_iload_2, x_iload_3, x_lload_0, x_lload_1, x_lload_2, x_lload_3, x_aload_0, x_aload_1, x_aload_2, x_aload_3, x_istore_0, x_istore_1, x_istore_2, x_istore_3, x_lstore_0, x_lstore_1, x_lstore_2, x_lstore_3, x_astore_0, x_astore_1, x_astore_2, x_astore_3, q_bipush_m3, q_bipush_m2, q_bipush_6, q_bipush_7, q_bipush_9, q_bipush_10, q_bipush_24, q_bipush_30, q_bipush_48, q_bipush_100, q_sipush_300, q_sipush_1000, q_sipush_24001, q_l0, q_l1, xtc_0_0, xtc_0_1, xtc_0_2, xtc_0_3, xtc_0_4, xtc_0_5, xtc_1_0, xtc_1_1, xtc_1_2, xtc_2_0, xtc_2_1, xtc_3_0, xtc_4_0, xtc_4_1, xtc_4_2, xtc_4_3, xtc_4_4, xtc_4_5, xtc_4_6, xtc_4_7, xtc_4_8, xtc_4_9, xtc_4_10, xtc_4_11, xtc_4_12, xtc_5_0, xtc_5_1, xtc_5_2, xtc_5_3, xtc_5_4, xtc_5_5, xtc_5_6, xtc_6_0, xtc_6_1, xtc_6_2, xtc_7_0, xtc_7_1, xtc_8_0, xtc_8_1, xtc_8_2, xtc_8_3, xtc_9_0, xtc_9_1, xtc_9_2, xtc_9_3, xtc_9_4, xtc_9_5, xtc_9_6, xtc_9_7, xtc_9_8, xtc_9_9, xtc_10_0, xtc_10_1, xtc_10_2, xtc_10_3, xtc_10_4, xtc_10_5, xtc_10_6, xtc_10_7, xtc_10_8, xtc_10_9, xtc_10_10, xtc_10_11, xtc_10_12, xtc_10_13, xtc_10_14, xtc_10_15, xtc_10_16, xtc_10_17, xtc_10_18, xtc_10_19, xtc_10_20, xtc_10_21, xtc_10_22, xtc_10_23, xtc_10_24, xtc_10_25, eq_self, reduceIte, Nat.reduceEqDiff, Nat.reduceAdd, Nat.reduceSub, Nat.zero_ne_one, Nat.one_ne_zero, Nat.succ_ne_zero, Nat.reduceLeDiff, reduceCtorEq, and_true, true_and, and_false, false_and, true_implies, false_implies, implies_true, not_true_eq_false, not_false_eq_true, xN_0, xN_s, xlook_c, xlook_n, xb_nil, xb_cons, xlen, xl_cons, xst_def, xst2_def, xdl_nil, xdl_int, xdl_ref, xdl_long, xrv_some, xfit_int, xfit_long, xfit_ref, cat_int, cat_ref, cat_long, xret_int, xret_bool, or_true, true_or, Option.some.injEq, Value.int.injEq, Value.ref.injEq, Value.long.injEq, List.getElem?_cons_zero, List.getElem?_cons_succ, List.set_cons_zero, List.set_cons_succ, List.length_cons, List.length_nil, xup_xup, Classical.not_not, Nat.reduceLT, Nat.zero_lt_succ, m1, m9, ra_len]
          simp (disch := omega) only [I_lt, I_le, I_eq, I_in, I_add, I_sub, I_mul, I_b0, I_b01, b_eq0, b_eq1, Classical.not_not, ra_get, ra_set, ra_len, Int.toNat_natCast, eq_self, true_and, and_true, ne_eq, not_false_eq_true, not_true_eq_false]
          exact ⟨fun _ => by simp [spCount, e], fun h => absurd h (by omega)⟩
        | succ j ih =>
          intro i hi
          refine xL_ok (t := tX10_count) rfl (ops := oX10_count_92) (by decide +kernel) (T := [(0, oX10_count_0), (48, oX10_count_48), (53, oX10_count_53), (58, oX10_count_58), (63, oX10_count_63), (65, oX10_count_65), (88, oX10_count_88), (90, oX10_count_90), (116, oX10_count_116), (124, oX10_count_124), (131, oX10_count_131), (133, oX10_count_133)]) (by decide +kernel) 2 ?_
          simp only [oX10_count_0, oX10_count_48, oX10_count_53, oX10_count_58, oX10_count_63, oX10_count_65, oX10_count_88, oX10_count_90, oX10_count_116, oX10_count_124, oX10_count_131, oX10_count_133, oX10_count_92, rX10_count, x_iconst, x_bipush, x_sipush, x_lconst, x_iload, x_lload, x_aload, x_istore, x_lstore, x_astore, x_iinc, x_iadd, x_isub, x_imul, x_iand, x_ior, x_ixor, x_ishl, x_ishr, x_ineg, x_ladd, x_lsub, x_lmul, x_ldiv, x_lrem, x_lcmp, x_i2l, x_l2i, x_dup, x_dup_x1, x_dup2, x_if_eq, x_if_ne, x_if_lt, x_if_ge, x_if_gt, x_if_le, x_ic_eq, x_ic_ne, x_ic_lt, x_ic_ge, x_ic_gt, x_ic_le, x_goto, x_ireturn, x_lreturn, x_return, x_getfield, x_putfield, x_iaload, x_baload, x_laload, x_aaload, x_iastore, x_bastore, x_lastore, x_aastore, x_arraylength, x_newarray, x_anewarray, x_new, x_iload_0, x_iload_1, x_iload_2, x_iload_3, x_lload_0, x_lload_1, x_lload_2, x_lload_3, x_aload_0, x_aload_1, x_aload_2, x_aload_3, x_istore_0, x_istore_1, x_istore_2, x_istore_3, x_lstore_0, x_lstore_1, x_lstore_2, x_lstore_3, x_astore_0, x_astore_1, x_astore_2, x_astore_3, q_bipush_m3, q_bipush_m2, q_bipush_6, q_bipush_7, q_bipush_9, q_bipush_10, q_bipush_24, q_bipush_30, q_bipush_48, q_bipush_100, q_sipush_300, q_sipush_1000, q_sipush_24001, q_l0, q_l1, xtc_0_0, xtc_0_1, xtc_0_2, xtc_0_3, xtc_0_4, xtc_0_5, xtc_1_0, xtc_1_1, xtc_1_2, xtc_2_0, xtc_2_1, xtc_3_0, xtc_4_0, xtc_4_1, xtc_4_2, xtc_4_3, xtc_4_4, xtc_4_5, xtc_4_6, xtc_4_7, xtc_4_8, xtc_4_9, xtc_4_10, xtc_4_11, xtc_4_12, xtc_5_0, xtc_5_1, xtc_5_2, xtc_5_3, xtc_5_4, xtc_5_5, xtc_5_6, xtc_6_0, xtc_6_1, xtc_6_2, xtc_7_0, xtc_7_1, xtc_8_0, xtc_8_1, xtc_8_2, xtc_8_3, xtc_9_0, xtc_9_1, xtc_9_2, xtc_9_3, xtc_9_4, xtc_9_5, xtc_9_6, xtc_9_7, xtc_9_8, xtc_9_9, xtc_10_0, xtc_10_1, xtc_10_2, xtc_10_3, xtc_10_4, xtc_10_5, xtc_10_6, xtc_10_7, xtc_10_8, xtc_10_9, xtc_10_10, xtc_10_11, xtc_10_12, xtc_10_13, xtc_10_14, xtc_10_15, xtc_10_16, xtc_10_17, xtc_10_18, xtc_10_19, xtc_10_20, xtc_10_21, xtc_10_22, xtc_10_23, xtc_10_24, xtc_10_25, eq_self, reduceIte, Nat.reduceEqDiff, Nat.reduceAdd, Nat.reduceSub, Nat.zero_ne_one, Nat.one_ne_zero, Nat.succ_ne_zero, Nat.reduceLeDiff, reduceCtorEq, and_true, true_and, and_false, false_and, true_implies, false_implies, implies_true, not_true_eq_false, not_false_eq_true, xN_0, xN_s, xlook_c, xlook_n, xb_nil, xb_cons, xlen, xl_cons, xst_def, xst2_def, xdl_nil, xdl_int, xdl_ref, xdl_long, xrv_some, xfit_int, xfit_long, xfit_ref, cat_int, cat_ref, cat_long, xret_int, xret_bool, or_true, true_or, Option.some.injEq, Value.int.injEq, Value.ref.injEq, Value.long.injEq, List.getElem?_cons_zero, List.getElem?_cons_succ, List.set_cons_zero, List.set_cons_succ, List.length_cons, List.length_nil, xup_xup, Classical.not_not, Nat.reduceLT, Nat.zero_lt_succ, m1, m9, ra_len]
          simp (disch := omega) only [I_lt, I_le, I_eq, I_in, I_add, I_sub, I_mul, I_b0, I_b01, b_eq0, b_eq1, Classical.not_not, ra_get, ra_set, ra_len, Int.toNat_natCast, eq_self, true_and, and_true, ne_eq, not_false_eq_true, not_true_eq_false]
          exact ⟨fun h => absurd h (by omega), fun _ => ⟨fun _ => ⟨by omega, xX.loc _ (by simp [sm]) (ih (i + 1) (by omega))⟩, fun h => absurd h (by decide)⟩⟩
      refine xN_ok (t := tX10_count) rfl (T := AX10_count) aX10_count 1 _ _ _ _ _ _ _ ?_
      simp only [AX10_count, oX10_count_0, oX10_count_48, oX10_count_53, oX10_count_58, oX10_count_63, oX10_count_65, oX10_count_88, oX10_count_90, oX10_count_92, oX10_count_116, oX10_count_124, oX10_count_131, oX10_count_133, rX10_count, x_iconst, x_bipush, x_sipush, x_lconst, x_iload, x_lload, x_aload, x_istore, x_lstore, x_astore, x_iinc, x_iadd, x_isub, x_imul, x_iand, x_ior, x_ixor, x_ishl, x_ishr, x_ineg, x_ladd, x_lsub, x_lmul, x_ldiv, x_lrem, x_lcmp, x_i2l, x_l2i, x_dup, x_dup_x1, x_dup2, x_if_eq, x_if_ne, x_if_lt, x_if_ge, x_if_gt, x_if_le, x_ic_eq, x_ic_ne, x_ic_lt, x_ic_ge, x_ic_gt, x_ic_le, x_goto, x_ireturn, x_lreturn, x_return, x_getfield, x_putfield, x_iaload, x_baload, x_laload, x_aaload, x_iastore, x_bastore, x_lastore, x_aastore, x_arraylength, x_newarray, x_anewarray, x_new, x_iload_0, x_iload_1, x_iload_2, x_iload_3, x_lload_0, x_lload_1, x_lload_2, x_lload_3, x_aload_0, x_aload_1, x_aload_2, x_aload_3, x_istore_0, x_istore_1, x_istore_2, x_istore_3, x_lstore_0, x_lstore_1, x_lstore_2, x_lstore_3, x_astore_0, x_astore_1, x_astore_2, x_astore_3, q_bipush_m3, q_bipush_m2, q_bipush_6, q_bipush_7, q_bipush_9, q_bipush_10, q_bipush_24, q_bipush_30, q_bipush_48, q_bipush_100, q_sipush_300, q_sipush_1000, q_sipush_24001, q_l0, q_l1, xtc_0_0, xtc_0_1, xtc_0_2, xtc_0_3, xtc_0_4, xtc_0_5, xtc_1_0, xtc_1_1, xtc_1_2, xtc_2_0, xtc_2_1, xtc_3_0, xtc_4_0, xtc_4_1, xtc_4_2, xtc_4_3, xtc_4_4, xtc_4_5, xtc_4_6, xtc_4_7, xtc_4_8, xtc_4_9, xtc_4_10, xtc_4_11, xtc_4_12, xtc_5_0, xtc_5_1, xtc_5_2, xtc_5_3, xtc_5_4, xtc_5_5, xtc_5_6, xtc_6_0, xtc_6_1, xtc_6_2, xtc_7_0, xtc_7_1, xtc_8_0, xtc_8_1, xtc_8_2, xtc_8_3, xtc_9_0, xtc_9_1, xtc_9_2, xtc_9_3, xtc_9_4, xtc_9_5, xtc_9_6, xtc_9_7, xtc_9_8, xtc_9_9, xtc_10_0, xtc_10_1, xtc_10_2, xtc_10_3, xtc_10_4, xtc_10_5, xtc_10_6, xtc_10_7, xtc_10_8, xtc_10_9, xtc_10_10, xtc_10_11, xtc_10_12, xtc_10_13, xtc_10_14, xtc_10_15, xtc_10_16, xtc_10_17, xtc_10_18, xtc_10_19, xtc_10_20, xtc_10_21, xtc_10_22, xtc_10_23, xtc_10_24, xtc_10_25, eq_self, reduceIte, Nat.reduceEqDiff, Nat.reduceAdd, Nat.reduceSub, Nat.zero_ne_one, Nat.one_ne_zero, Nat.succ_ne_zero, Nat.reduceLeDiff, reduceCtorEq, and_true, true_and, and_false, false_and, true_implies, false_implies, implies_true, not_true_eq_false, not_false_eq_true, xN_0, xN_s, xlook_c, xlook_n, xb_nil, xb_cons, xlen, xl_cons, xst_def, xst2_def, xdl_nil, xdl_int, xdl_ref, xdl_long, xrv_some, xfit_int, xfit_long, xfit_ref, cat_int, cat_ref, cat_long, xret_int, xret_bool, or_true, true_or, Option.some.injEq, Value.int.injEq, Value.ref.injEq, Value.long.injEq, List.getElem?_cons_zero, List.getElem?_cons_succ, List.set_cons_zero, List.set_cons_succ, List.length_cons, List.length_nil, xup_xup, Classical.not_not, Nat.reduceLT, Nat.zero_lt_succ]
      exact xX.loc _ (by simp [sm]) (loop S.ng 0 (by omega))
    | j + 6, h => simp at h
  · rw [I_toInt h1 h2] at h
    show xX l tX10_count d 0 0 _ 0 0 133 _ _ _ _
    refine xN_ok (t := tX10_count) rfl (T := AX10_count) aX10_count 1 _ _ _ _ _ _ _ ?_
    simp only [AX10_count, oX10_count_0, oX10_count_48, oX10_count_53, oX10_count_58, oX10_count_63, oX10_count_65, oX10_count_88, oX10_count_90, oX10_count_92, oX10_count_116, oX10_count_124, oX10_count_131, oX10_count_133, rX10_count, x_iconst, x_bipush, x_sipush, x_lconst, x_iload, x_lload, x_aload, x_istore, x_lstore, x_astore, x_iinc, x_iadd, x_isub, x_imul, x_iand, x_ior, x_ixor, x_ishl, x_ishr, x_ineg, x_ladd, x_lsub, x_lmul, x_ldiv, x_lrem, x_lcmp, x_i2l, x_l2i, x_dup, x_dup_x1, x_dup2, x_if_eq, x_if_ne, x_if_lt, x_if_ge, x_if_gt, x_if_le, x_ic_eq, x_ic_ne, x_ic_lt, x_ic_ge, x_ic_gt, x_ic_le, x_goto, x_ireturn, x_lreturn, x_return, x_getfield, x_putfield, x_iaload, x_baload, x_laload, x_aaload, x_iastore, x_bastore, x_lastore, x_aastore, x_arraylength, x_newarray, x_anewarray, x_new, x_iload_0, x_iload_1, x_iload_2, x_iload_3, x_lload_0, x_lload_1, x_lload_2, x_lload_3, x_aload_0, x_aload_1, x_aload_2, x_aload_3, x_istore_0, x_istore_1, x_istore_2, x_istore_3, x_lstore_0, x_lstore_1, x_lstore_2, x_lstore_3, x_astore_0, x_astore_1, x_astore_2, x_astore_3, q_bipush_m3, q_bipush_m2, q_bipush_6, q_bipush_7, q_bipush_9, q_bipush_10, q_bipush_24, q_bipush_30, q_bipush_48, q_bipush_100, q_sipush_300, q_sipush_1000, q_sipush_24001, q_l0, q_l1, xtc_0_0, xtc_0_1, xtc_0_2, xtc_0_3, xtc_0_4, xtc_0_5, xtc_1_0, xtc_1_1, xtc_1_2, xtc_2_0, xtc_2_1, xtc_3_0, xtc_4_0, xtc_4_1, xtc_4_2, xtc_4_3, xtc_4_4, xtc_4_5, xtc_4_6, xtc_4_7, xtc_4_8, xtc_4_9, xtc_4_10, xtc_4_11, xtc_4_12, xtc_5_0, xtc_5_1, xtc_5_2, xtc_5_3, xtc_5_4, xtc_5_5, xtc_5_6, xtc_6_0, xtc_6_1, xtc_6_2, xtc_7_0, xtc_7_1, xtc_8_0, xtc_8_1, xtc_8_2, xtc_8_3, xtc_9_0, xtc_9_1, xtc_9_2, xtc_9_3, xtc_9_4, xtc_9_5, xtc_9_6, xtc_9_7, xtc_9_8, xtc_9_9, xtc_10_0, xtc_10_1, xtc_10_2, xtc_10_3, xtc_10_4, xtc_10_5, xtc_10_6, xtc_10_7, xtc_10_8, xtc_10_9, xtc_10_10, xtc_10_11, xtc_10_12, xtc_10_13, xtc_10_14, xtc_10_15, xtc_10_16, xtc_10_17, xtc_10_18, xtc_10_19, xtc_10_20, xtc_10_21, xtc_10_22, xtc_10_23, xtc_10_24, xtc_10_25, eq_self, reduceIte, Nat.reduceEqDiff, Nat.reduceAdd, Nat.reduceSub, Nat.zero_ne_one, Nat.one_ne_zero, Nat.succ_ne_zero, Nat.reduceLeDiff, reduceCtorEq, and_true, true_and, and_false, false_and, true_implies, false_implies, implies_true, not_true_eq_false, not_false_eq_true, xN_0, xN_s, xlook_c, xlook_n, xb_nil, xb_cons, xlen, xl_cons, xst_def, xst2_def, xdl_nil, xdl_int, xdl_ref, xdl_long, xrv_some, xfit_int, xfit_long, xfit_ref, cat_int, cat_ref, cat_long, xret_int, xret_bool, or_true, true_or, Option.some.injEq, Value.int.injEq, Value.ref.injEq, Value.long.injEq, List.getElem?_cons_zero, List.getElem?_cons_succ, List.set_cons_zero, List.set_cons_succ, List.length_cons, List.length_nil, xup_xup, Classical.not_not, Nat.reduceLT, Nat.zero_lt_succ]
    unfold spCount
    rw [if_neg (by omega), if_neg (by omega), if_neg (by omega), if_neg (by omega), if_neg (by omega), if_neg (by omega)]
end MOD2
end
section
/-! WAYS, in mathematics: (cost, arcs); the first five of a list, by cost, of like cost the earlier first -/
abbrev Wy : Type := Int × List Nat
def insS : List Wy → Wy → List Wy
  | [], x => [x]
  | y :: l, x => if y.1 ≤ x.1 then y :: insS l x else x :: y :: l
def ins5 (l : List Wy) (x : Wy) : List Wy := (insS l x).take 5
def srt (l : List Wy) : Prop := l.Pairwise (fun a b => a.1 ≤ b.1)
theorem insS_mem {l : List Wy} {x z : Wy} : z ∈ insS l x ↔ z = x ∨ z ∈ l := by
  induction l with
  | nil => simp [insS]
  | cons y l ih =>
    unfold insS
    split
    · rw [List.mem_cons, ih, List.mem_cons]
      constructor
      · rintro (h | h | h) <;> simp [h]
      · rintro (h | h | h) <;> simp [h]
    · simp [List.mem_cons]
theorem insS_srt {l : List Wy} {x : Wy} (h : srt l) : srt (insS l x) := by
  induction l with
  | nil => simp [insS, srt]
  | cons y l ih =>
    have h' := List.pairwise_cons.mp h
    unfold insS
    split
    · next hle =>
      refine List.pairwise_cons.mpr ⟨fun z hz => ?_, ih h'.2⟩
      rcases insS_mem.mp hz with rfl | hz
      · exact hle
      · exact h'.1 z hz
    · next hle =>
      refine List.pairwise_cons.mpr ⟨fun z hz => ?_, h⟩
      rcases List.mem_cons.mp hz with rfl | hz
      · omega
      · have := h'.1 z hz; omega
theorem ins5_srt {l : List Wy} {x : Wy} (h : srt l) : srt (ins5 l x) := List.Pairwise.sublist (List.take_sublist 5 _) (insS_srt h)
theorem insS_len {l : List Wy} {x : Wy} : (insS l x).length = l.length + 1 := by
  induction l with
  | nil => rfl
  | cons y l ih => unfold insS; split <;> simp [ih]
theorem ins5_len {l : List Wy} {x : Wy} : (ins5 l x).length = min 5 (l.length + 1) := by unfold ins5; rw [List.length_take, insS_len]
theorem insS_end {l : List Wy} {x : Wy} (h : ∀ y ∈ l, y.1 ≤ x.1) : insS l x = l ++ [x] := by
  induction l with
  | nil => rfl
  | cons y l ih =>
    unfold insS
    rw [if_pos (h y List.mem_cons_self), ih (fun z hz => h z (List.mem_cons_of_mem _ hz))]
    rfl
theorem ins5_skip {l : List Wy} {x : Wy} (hl : l.length = 5) (h : ∀ y ∈ l, y.1 ≤ x.1) : ins5 l x = l := by
  unfold ins5
  rw [insS_end h, List.take_append_of_le_length (by omega), List.take_of_length_le (by omega)]
theorem fold_skip {l : List Wy} (hl : l.length = 5) : ∀ (xs : List Wy), (∀ x ∈ xs, ∀ y ∈ l, y.1 ≤ x.1) → xs.foldl ins5 l = l
  | [], _ => rfl
  | x :: xs, h => by
    rw [List.foldl_cons, ins5_skip hl (h x List.mem_cons_self)]
    exact fold_skip hl xs (fun z hz => h z (List.mem_cons_of_mem _ hz))
theorem fold_srt : ∀ (xs : List Wy) {l : List Wy}, srt l → srt (xs.foldl ins5 l)
  | [], _, h => h
  | x :: xs, _, h => fold_srt xs (ins5_srt h)
theorem fold_len : ∀ (xs : List Wy) {l : List Wy}, l.length ≤ 5 → (xs.foldl ins5 l).length ≤ 5
  | [], _, h => h
  | x :: xs, _, h => fold_len xs (by rw [ins5_len]; omega)
/-- the last of a sorted list is the dearest -/
theorem srt_last {l : List Wy} (h : srt l) {k : Nat} {z : Wy} (hk : l[k]? = some z) (hl : k + 1 = l.length) : ∀ y ∈ l, y.1 ≤ z.1 := by
  intro y hy
  obtain ⟨j, hj⟩ := List.getElem?_of_mem hy
  have hjl := (List.getElem?_eq_some_iff.mp hj).1
  by_cases e : j = k
  · subst e; rw [hj] at hk; cases hk; exact Int.le_refl _
  · obtain ⟨h1, h2⟩ := List.getElem?_eq_some_iff.mp hj
    obtain ⟨h3, h4⟩ := List.getElem?_eq_some_iff.mp hk
    have := List.pairwise_iff_getElem.mp h j k h1 h3 (by omega)
    rw [h2, h4] at this
    exact this
section PTH
variable {S : St}
def pcost (S : St) (p : List Nat) : Int := (p.map (S.2 3)).sum
/-- the rows of arcs from a node to the end that come to no node of the set and to none twice, in order; k arcs at most -/
def pth (S : St) (go : Int) : Nat → Int → Nat → List (List Nat)
  | 0, v, _ => if v = go then [[]] else []
  | k + 1, v, seen => if v = go then [[]] else (List.range S.na).flatMap fun i => if S.2 0 i = v ∧ seen.testBit (S.2 1 i).toNat = false then (pth S go k (S.2 1 i) (seen ||| 2 ^ (S.2 1 i).toNat)).map (fun p => i :: p) else []
def isW (S : St) (go : Int) : Int → List Nat → Prop
  | v, [] => v = go
  | v, i :: p => i < S.na ∧ S.2 0 i = v ∧ isW S go (S.2 1 i) p
theorem pth_isW {go : Int} : ∀ (k : Nat) (v : Int) (seen : Nat) (p : List Nat), p ∈ pth S go k v seen → isW S go v p ∧ p.length ≤ k
  | 0, v, seen, p, h => by
    unfold pth at h
    split at h
    · next e => simp at h; subst h; exact ⟨e, Nat.le_refl _⟩
    · simp at h
  | k + 1, v, seen, p, h => by
    unfold pth at h
    split at h
    · next e => simp at h; subst h; exact ⟨e, Nat.zero_le _⟩
    · obtain ⟨i, hi, hp⟩ := List.mem_flatMap.mp h
      split at hp
      · next e =>
        obtain ⟨p', hp', rfl⟩ := List.mem_map.mp hp
        obtain ⟨h1, h2⟩ := pth_isW k _ _ p' hp'
        exact ⟨⟨List.mem_range.mp hi, e.1, h1⟩, by simp; omega⟩
      · simp at hp
/-- what a way found from here adds -/
def wys (S : St) (go : Int) (k : Nat) (v : Int) (seen : Nat) (cost : Int) (pre : List Nat) : List Wy := (pth S go k v seen).map fun p => (cost + pcost S p, pre ++ p)
theorem wys_go {go : Int} {k seen : Nat} {cost : Int} {pre : List Nat} : wys S go k go seen cost pre = [(cost, pre)] := by
  unfold wys
  cases k <;> simp [pth, pcost]
theorem wys_0 {go v : Int} (h : v ≠ go) {seen : Nat} {cost : Int} {pre : List Nat} : wys S go 0 v seen cost pre = [] := by simp [wys, pth, h]
/-- the arcs from a node on, i of them looked at -/
def wyi (S : St) (go : Int) (k : Nat) (v : Int) (seen : Nat) (cost : Int) (pre : List Nat) (i : Nat) : List Wy := (List.range i).flatMap fun i => if S.2 0 i = v ∧ seen.testBit (S.2 1 i).toNat = false then wys S go k (S.2 1 i) (seen ||| 2 ^ (S.2 1 i).toNat) (cost + S.2 3 i) (pre ++ [i]) else []
theorem wyi_0 {go v : Int} {k seen : Nat} {cost : Int} {pre : List Nat} : wyi S go k v seen cost pre 0 = [] := rfl
theorem wyi_s {go v : Int} {k seen : Nat} {cost : Int} {pre : List Nat} {i : Nat} : wyi S go k v seen cost pre (i + 1) = wyi S go k v seen cost pre i ++ (if S.2 0 i = v ∧ seen.testBit (S.2 1 i).toNat = false then wys S go k (S.2 1 i) (seen ||| 2 ^ (S.2 1 i).toNat) (cost + S.2 3 i) (pre ++ [i]) else []) := by
  unfold wyi
  rw [List.range_succ, List.flatMap_append]
  simp
theorem wys_s {go v : Int} (h : v ≠ go) {k seen : Nat} {cost : Int} {pre : List Nat} : wys S go (k + 1) v seen cost pre = wyi S go k v seen cost pre S.na := by
  unfold wys wyi
  rw [show pth S go (k + 1) v seen = (List.range S.na).flatMap fun i => if S.2 0 i = v ∧ seen.testBit (S.2 1 i).toNat = false then (pth S go k (S.2 1 i) (seen ||| 2 ^ (S.2 1 i).toNat)).map (fun p => i :: p) else [] from by
    show (if v = go then [[]] else _) = _
    rw [if_neg h]]
  rw [List.map_flatMap]
  congr 1
  funext i
  split
  · rw [List.map_map]
    apply List.map_congr_left
    intro p hp
    simp only [Function.comp, pcost, List.map_cons, List.sum_cons, wys]
    rw [List.append_assoc]
    simp
    omega
  · rfl
/-- a number for each node that is below the cost of each way of at most m arcs to the end -/
def LB (S : St) (go : Int) (m : Nat) (f : Nat → Int) : Prop := ∀ (v : Int) (p : List Nat), isW S go v p → p.length ≤ m → f v.toNat ≤ pcost S p
theorem pcost_bd (hw : WF S) {go : Int} : ∀ (p : List Nat) (v : Int), isW S go v p → 0 ≤ pcost S p ∧ pcost S p ≤ 100 * p.length
  | [], _, _ => by simp [pcost]
  | i :: p, v, h => by
    obtain ⟨h1, h2, h3⟩ := h
    have := pcost_bd hw p _ h3
    obtain ⟨-, -, -, -, -, -, -, q1, q2⟩ := hw.2.2.2.1 i h1
    simp only [pcost, List.map_cons, List.sum_cons, List.length_cons] at this ⊢
    omega
end PTH
end
section
/-- an array of references of n places -/
def ro (n : Nat) (f : Nat → Option Nat) : List (Option Nat) := (List.range n).map f
theorem ro_len (n : Nat) (f : Nat → Option Nat) : (ro n f).length = n := by simp [ro]
theorem ro_get {n : Nat} {f : Nat → Option Nat} {j : Int} (h1 : 0 ≤ j) (h2 : j < n) (h3 : j < 2147483648) : (ro n f).getD (I j).toNatClampNeg none = f j.toNat := by
  rw [I_cl h1 h3]
  have : j.toNat < n := by omega
  simp [ro, List.getD_eq_getElem?_getD, this]
def fo (f : Nat → Option Nat) (k : Nat) (v : Option Nat) : Nat → Option Nat := fun j => if j = k then v else f j
theorem ro_set {n : Nat} {f : Nat → Option Nat} {j : Int} (h1 : 0 ≤ j) (h3 : j < 2147483648) (v : Option Nat) : (ro n f).set (I j).toNatClampNeg v = ro n (fo f j.toNat v) := by
  rw [I_cl h1 h3]
  apply List.ext_getElem?
  intro i
  by_cases hi : i < n
  · by_cases e : i = j.toNat
    · subst e; simp [ro, hi, fo]
    · rw [List.getElem?_set_ne (Ne.symm e)]; simp [ro, hi, fo, e]
  · simp [ro, hi, List.getElem?_set]
theorem ro_ext {n : Nat} {f g : Nat → Option Nat} (h : ∀ i, i < n → f i = g i) : ro n f = ro n g := by
  unfold ro
  apply List.map_congr_left
  intro i hi
  rw [h i (List.mem_range.mp hi)]
section WL
variable {l : Launch} {d n : Nat} {ws : xW}
theorem w_copyFrom {q steps : Nat} {a b cost : Int} {f ft : Nat → Int} (hq : q ≠ 12 ∧ q + 1 ≠ 12) (h1 : ws q = some (6, .inr (.inr (.inr [.int (I a), .int (I b), .ref (q + 1)])))) (h2 : ws (q + 1) = some (0, .inl (ra 9 f))) (h3 : ws 12 = some (0, .inl (ra 9 ft))) (hs : steps ≤ 9) : xM l tX6_copyFrom d 0 0 [.ref q, .ref 12, .int (I steps), .int (I cost)] n ws (fun r n' ws' => r = none ∧ n' = n ∧ ∃ f', (∀ j, j < steps → f' j = ft j) ∧ ws' = xup (xup ws (q + 1) (0, .inl (ra 9 f'))) q (6, .inr (.inr (.inr [.int (I steps), .int (I cost), .ref (q + 1)])))) := by
  generalize hQ : (fun (r : Option Value) (n' : Nat) (ws' : xW) => r = none ∧ n' = n ∧ ∃ f' : Nat → Int, (∀ j, j < steps → f' j = ft j) ∧ ws' = xup (xup ws (q + 1) (0, .inl (ra 9 f'))) q (6, .inr (.inr (.inr [.int (I steps), .int (I cost), .ref (q + 1)])))) = Q
  have hqq : ¬ q = q + 1 := by omega
  have h12 : ¬ 12 = q + 1 := fun e => hq.2 e.symm
  refine xM.of (by decide) (Nat.le_of_ble_eq_true rfl) ?_
  simp only [lv_args, cat_int, cat_ref, cat_long, reduceIte, Nat.reduceEqDiff, Nat.reduceAdd, Nat.one_ne_zero, Nat.reduceLeDiff]
  have loop : ∀ j i : Nat, i + j = steps → ∀ g : Nat → Int, (∀ k, k < i → g k = ft k) → xX l tX6_copyFrom d 0 0 Q 0 0 3 [(0, .ref q), (1, .ref 12), (2, .int (I steps)), (3, .int (I cost)), (4, .int (I i))] [] n (xup ws (q + 1) (0, .inl (ra 9 g))) := by
    intro j
    induction j with
    | zero =>
      intro i hi g hg
      refine xL_ok (t := tX6_copyFrom) rfl (ops := oX6_copyFrom_3) (by decide +kernel) (T := [(0, oX6_copyFrom_0), (26, oX6_copyFrom_26)]) (by decide +kernel) 1 ?_
      simp only [oX6_copyFrom_0, oX6_copyFrom_26, oX6_copyFrom_3, rX6_copyFrom, x_iconst, x_bipush, x_sipush, x_lconst, x_iload, x_lload, x_aload, x_istore, x_lstore, x_astore, x_iinc, x_iadd, x_isub, x_imul, x_iand, x_ior, x_ixor, x_ishl, x_ishr, x_ineg, x_ladd, x_lsub, x_lmul, x_ldiv, x_lrem, x_lcmp, x_i2l, x_l2i, x_dup, x_dup_x1, x_dup2, x_if_eq, x_if_ne, x_if_lt, x_if_ge, x_if_gt, x_if_le, x_ic_eq, x_ic_ne, x_ic_lt, x_ic_ge, x_ic_gt, x_ic_le, x_goto, x_ireturn, x_lreturn, x_return, x_getfield, x_putfield, x_iaload, x_baload, x_laload, x_aaload, x_iastore, x_bastore, x_lastore, x_aastore, x_arraylength, x_newarray, x_anewarray, x_new, x_iload_0, x_iload_1, x_iload_2, x_iload_3, x_lload_0, x_lload_1, x_lload_2, x_lload_3, x_aload_0, x_aload_1, x_aload_2, x_aload_3, x_istore_0, x_istore_1, x_istore_2, x_istore_3, x_lstore_0, x_lstore_1, x_lstore_2, x_lstore_3, x_astore_0, x_astore_1, x_astore_2, x_astore_3, q_bipush_m3, q_bipush_m2, q_bipush_6, q_bipush_7, q_bipush_9, q_bipush_10, q_bipush_24, q_bipush_30, q_bipush_48, q_bipush_100, q_sipush_300, q_sipush_1000, q_sipush_24001, q_l0, q_l1, xtc_0_0, xtc_0_1, xtc_0_2, xtc_0_3, xtc_0_4, xtc_0_5, xtc_1_0, xtc_1_1, xtc_1_2, xtc_2_0, xtc_2_1, xtc_3_0, xtc_4_0, xtc_4_1, xtc_4_2, xtc_4_3, xtc_4_4, xtc_4_5, xtc_4_6, xtc_4_7, xtc_4_8, xtc_4_9, xtc_4_10, xtc_4_11, xtc_4_12, xtc_5_0, xtc_5_1, xtc_5_2, xtc_5_3, xtc_5_4, xtc_5_5, xtc_5_6, xtc_6_0, xtc_6_1, xtc_6_2, xtc_7_0, xtc_7_1, xtc_8_0, xtc_8_1, xtc_8_2, xtc_8_3, xtc_9_0, xtc_9_1, xtc_9_2, xtc_9_3, xtc_9_4, xtc_9_5, xtc_9_6, xtc_9_7, xtc_9_8, xtc_9_9, xtc_10_0, xtc_10_1, xtc_10_2, xtc_10_3, xtc_10_4, xtc_10_5, xtc_10_6, xtc_10_7, xtc_10_8, xtc_10_9, xtc_10_10, xtc_10_11, xtc_10_12, xtc_10_13, xtc_10_14, xtc_10_15, xtc_10_16, xtc_10_17, xtc_10_18, xtc_10_19, xtc_10_20, xtc_10_21, xtc_10_22, xtc_10_23, xtc_10_24, xtc_10_25, eq_self, reduceIte, Nat.reduceEqDiff, Nat.reduceAdd, Nat.reduceSub, Nat.zero_ne_one, Nat.one_ne_zero, Nat.succ_ne_zero, Nat.reduceLeDiff, reduceCtorEq, and_true, true_and, and_false, false_and, true_implies, false_implies, implies_true, not_true_eq_false, not_false_eq_true, xN_0, xN_s, xlook_c, xlook_n, xb_nil, xb_cons, xlen, xl_cons, xst_def, xst2_def, xdl_nil, xdl_int, xdl_ref, xdl_long, xrv_some, xfit_int, xfit_long, xfit_ref, cat_int, cat_ref, cat_long, xret_int, xret_bool, or_true, true_or, Option.some.injEq, Value.int.injEq, Value.ref.injEq, Value.long.injEq, List.getElem?_cons_zero, List.getElem?_cons_succ, List.set_cons_zero, List.set_cons_succ, List.length_cons, List.length_nil, xup_xup, Classical.not_not, Nat.reduceLT, Nat.zero_lt_succ, h1, h2, h3, xup_self, xup_ne, ne_eq, hqq, h12, ra_len]
      simp (disch := omega) only [I_lt, I_le, I_eq, I_in, I_add, I_sub, I_mul, I_b0, I_b01, b_eq0, b_eq1, Classical.not_not, ra_get, ra_set, ra_len, Int.toNat_natCast, eq_self, true_and, and_true, ne_eq, not_false_eq_true, not_true_eq_false]
      refine ⟨fun _ => ?_, fun h => absurd h (by omega)⟩
      rw [← hQ]
      exact ⟨rfl, rfl, g, fun k hk => hg k (by omega), rfl⟩
    | succ j ih =>
      intro i hi g hg
      refine xL_ok (t := tX6_copyFrom) rfl (ops := oX6_copyFrom_3) (by decide +kernel) (T := [(0, oX6_copyFrom_0), (26, oX6_copyFrom_26)]) (by decide +kernel) 1 ?_
      simp only [oX6_copyFrom_0, oX6_copyFrom_26, oX6_copyFrom_3, rX6_copyFrom, x_iconst, x_bipush, x_sipush, x_lconst, x_iload, x_lload, x_aload, x_istore, x_lstore, x_astore, x_iinc, x_iadd, x_isub, x_imul, x_iand, x_ior, x_ixor, x_ishl, x_ishr, x_ineg, x_ladd, x_lsub, x_lmul, x_ldiv, x_lrem, x_lcmp, x_i2l, x_l2i, x_dup, x_dup_x1, x_dup2, x_if_eq, x_if_ne, x_if_lt, x_if_ge, x_if_gt, x_if_le, x_ic_eq, x_ic_ne, x_ic_lt, x_ic_ge, x_ic_gt, x_ic_le, x_goto, x_ireturn, x_lreturn, x_return, x_getfield, x_putfield, x_iaload, x_baload, x_laload, x_aaload, x_iastore, x_bastore, x_lastore, x_aastore, x_arraylength, x_newarray, x_anewarray, x_new, x_iload_0, x_iload_1, x_iload_2, x_iload_3, x_lload_0, x_lload_1, x_lload_2, x_lload_3, x_aload_0, x_aload_1, x_aload_2, x_aload_3, x_istore_0, x_istore_1, x_istore_2, x_istore_3, x_lstore_0, x_lstore_1, x_lstore_2, x_lstore_3, x_astore_0, x_astore_1, x_astore_2, x_astore_3, q_bipush_m3, q_bipush_m2, q_bipush_6, q_bipush_7, q_bipush_9, q_bipush_10, q_bipush_24, q_bipush_30, q_bipush_48, q_bipush_100, q_sipush_300, q_sipush_1000, q_sipush_24001, q_l0, q_l1, xtc_0_0, xtc_0_1, xtc_0_2, xtc_0_3, xtc_0_4, xtc_0_5, xtc_1_0, xtc_1_1, xtc_1_2, xtc_2_0, xtc_2_1, xtc_3_0, xtc_4_0, xtc_4_1, xtc_4_2, xtc_4_3, xtc_4_4, xtc_4_5, xtc_4_6, xtc_4_7, xtc_4_8, xtc_4_9, xtc_4_10, xtc_4_11, xtc_4_12, xtc_5_0, xtc_5_1, xtc_5_2, xtc_5_3, xtc_5_4, xtc_5_5, xtc_5_6, xtc_6_0, xtc_6_1, xtc_6_2, xtc_7_0, xtc_7_1, xtc_8_0, xtc_8_1, xtc_8_2, xtc_8_3, xtc_9_0, xtc_9_1, xtc_9_2, xtc_9_3, xtc_9_4, xtc_9_5, xtc_9_6, xtc_9_7, xtc_9_8, xtc_9_9, xtc_10_0, xtc_10_1, xtc_10_2, xtc_10_3, xtc_10_4, xtc_10_5, xtc_10_6, xtc_10_7, xtc_10_8, xtc_10_9, xtc_10_10, xtc_10_11, xtc_10_12, xtc_10_13, xtc_10_14, xtc_10_15, xtc_10_16, xtc_10_17, xtc_10_18, xtc_10_19, xtc_10_20, xtc_10_21, xtc_10_22, xtc_10_23, xtc_10_24, xtc_10_25, eq_self, reduceIte, Nat.reduceEqDiff, Nat.reduceAdd, Nat.reduceSub, Nat.zero_ne_one, Nat.one_ne_zero, Nat.succ_ne_zero, Nat.reduceLeDiff, reduceCtorEq, and_true, true_and, and_false, false_and, true_implies, false_implies, implies_true, not_true_eq_false, not_false_eq_true, xN_0, xN_s, xlook_c, xlook_n, xb_nil, xb_cons, xlen, xl_cons, xst_def, xst2_def, xdl_nil, xdl_int, xdl_ref, xdl_long, xrv_some, xfit_int, xfit_long, xfit_ref, cat_int, cat_ref, cat_long, xret_int, xret_bool, or_true, true_or, Option.some.injEq, Value.int.injEq, Value.ref.injEq, Value.long.injEq, List.getElem?_cons_zero, List.getElem?_cons_succ, List.set_cons_zero, List.set_cons_succ, List.length_cons, List.length_nil, xup_xup, Classical.not_not, Nat.reduceLT, Nat.zero_lt_succ, h1, h2, h3, xup_self, xup_ne, ne_eq, hqq, h12, ra_len]
      simp (disch := omega) only [I_lt, I_le, I_eq, I_in, I_add, I_sub, I_mul, I_b0, I_b01, b_eq0, b_eq1, Classical.not_not, ra_get, ra_set, ra_len, Int.toNat_natCast, eq_self, true_and, and_true, ne_eq, not_false_eq_true, not_true_eq_false]
      refine ⟨fun h => absurd h (by omega), fun _ => ⟨by omega, by omega, ?_⟩⟩
      refine xX.loc _ (by simp) (ih (i + 1) (by omega) (fu g i (ft i)) (fun k hk => ?_))
      by_cases e : k = i
      · subst e; exact fu_s _ _ _
      · rw [fu_n _ _ e]; exact hg k (by omega)
  refine xN_ok (t := tX6_copyFrom) rfl (T := AX6_copyFrom) aX6_copyFrom 1 _ _ _ _ _ _ _ ?_
  simp only [AX6_copyFrom, oX6_copyFrom_0, oX6_copyFrom_3, oX6_copyFrom_26, rX6_copyFrom, x_iconst, x_bipush, x_sipush, x_lconst, x_iload, x_lload, x_aload, x_istore, x_lstore, x_astore, x_iinc, x_iadd, x_isub, x_imul, x_iand, x_ior, x_ixor, x_ishl, x_ishr, x_ineg, x_ladd, x_lsub, x_lmul, x_ldiv, x_lrem, x_lcmp, x_i2l, x_l2i, x_dup, x_dup_x1, x_dup2, x_if_eq, x_if_ne, x_if_lt, x_if_ge, x_if_gt, x_if_le, x_ic_eq, x_ic_ne, x_ic_lt, x_ic_ge, x_ic_gt, x_ic_le, x_goto, x_ireturn, x_lreturn, x_return, x_getfield, x_putfield, x_iaload, x_baload, x_laload, x_aaload, x_iastore, x_bastore, x_lastore, x_aastore, x_arraylength, x_newarray, x_anewarray, x_new, x_iload_0, x_iload_1, x_iload_2, x_iload_3, x_lload_0, x_lload_1, x_lload_2, x_lload_3, x_aload_0, x_aload_1, x_aload_2, x_aload_3, x_istore_0, x_istore_1, x_istore_2, x_istore_3, x_lstore_0, x_lstore_1, x_lstore_2, x_lstore_3, x_astore_0, x_astore_1, x_astore_2, x_astore_3, q_bipush_m3, q_bipush_m2, q_bipush_6, q_bipush_7, q_bipush_9, q_bipush_10, q_bipush_24, q_bipush_30, q_bipush_48, q_bipush_100, q_sipush_300, q_sipush_1000, q_sipush_24001, q_l0, q_l1, xtc_0_0, xtc_0_1, xtc_0_2, xtc_0_3, xtc_0_4, xtc_0_5, xtc_1_0, xtc_1_1, xtc_1_2, xtc_2_0, xtc_2_1, xtc_3_0, xtc_4_0, xtc_4_1, xtc_4_2, xtc_4_3, xtc_4_4, xtc_4_5, xtc_4_6, xtc_4_7, xtc_4_8, xtc_4_9, xtc_4_10, xtc_4_11, xtc_4_12, xtc_5_0, xtc_5_1, xtc_5_2, xtc_5_3, xtc_5_4, xtc_5_5, xtc_5_6, xtc_6_0, xtc_6_1, xtc_6_2, xtc_7_0, xtc_7_1, xtc_8_0, xtc_8_1, xtc_8_2, xtc_8_3, xtc_9_0, xtc_9_1, xtc_9_2, xtc_9_3, xtc_9_4, xtc_9_5, xtc_9_6, xtc_9_7, xtc_9_8, xtc_9_9, xtc_10_0, xtc_10_1, xtc_10_2, xtc_10_3, xtc_10_4, xtc_10_5, xtc_10_6, xtc_10_7, xtc_10_8, xtc_10_9, xtc_10_10, xtc_10_11, xtc_10_12, xtc_10_13, xtc_10_14, xtc_10_15, xtc_10_16, xtc_10_17, xtc_10_18, xtc_10_19, xtc_10_20, xtc_10_21, xtc_10_22, xtc_10_23, xtc_10_24, xtc_10_25, eq_self, reduceIte, Nat.reduceEqDiff, Nat.reduceAdd, Nat.reduceSub, Nat.zero_ne_one, Nat.one_ne_zero, Nat.succ_ne_zero, Nat.reduceLeDiff, reduceCtorEq, and_true, true_and, and_false, false_and, true_implies, false_implies, implies_true, not_true_eq_false, not_false_eq_true, xN_0, xN_s, xlook_c, xlook_n, xb_nil, xb_cons, xlen, xl_cons, xst_def, xst2_def, xdl_nil, xdl_int, xdl_ref, xdl_long, xrv_some, xfit_int, xfit_long, xfit_ref, cat_int, cat_ref, cat_long, xret_int, xret_bool, or_true, true_or, Option.some.injEq, Value.int.injEq, Value.ref.injEq, Value.long.injEq, List.getElem?_cons_zero, List.getElem?_cons_succ, List.set_cons_zero, List.set_cons_succ, List.length_cons, List.length_nil, xup_xup, Classical.not_not, Nat.reduceLT, Nat.zero_lt_succ]
  have := loop steps 0 (by omega) f (fun k hk => absurd hk (by omega))
  rw [xup_id h2] at this
  exact xX.loc _ (by simp) this
/-- the list of a good's ways: at B the list, at B + 1 its items, from B + 2 on the ways, each with its arcs behind it -/
def WLx (ws : xW) (B m : Nat) (p : Nat → Nat) (ln co : Nat → Int) (fa : Nat → Nat → Int) : Prop :=
  ws B = some (7, .inr (.inr (.inr [.int (I m), .ref (B + 1)]))) ∧ ws (B + 1) = some (3, .inr (.inr (.inl (ro 5 (fun k => some (B + 2 + 2 * p k)))))) ∧ (∀ j, j < 5 → ws (B + 2 + 2 * j) = some (6, .inr (.inr (.inr [.int (I (ln j)), .int (I (co j)), .ref (B + 2 + 2 * j + 1)])))) ∧ (∀ j, j < 5 → ws (B + 2 + 2 * j + 1) = some (0, .inl (ra 9 (fa j))))
def WLd (l : List Wy) (p : Nat → Nat) (ln co : Nat → Int) (fa : Nat → Nat → Int) : Prop :=
  (∀ k, k < 5 → p k < 5) ∧ (∀ k j, k < 5 → j < 5 → p k = p j → k = j) ∧ l.length ≤ 5 ∧ ∀ (k : Nat) (x : Wy), l[k]? = some x → co (p k) = x.1 ∧ ln (p k) = x.2.length ∧ x.2.length ≤ 9 ∧ 0 ≤ x.1 ∧ x.1 ≤ 900 ∧ ∀ (i a : Nat), x.2[i]? = some a → fa (p k) i = a
def WLAt (ws : xW) (B : Nat) (l : List Wy) : Prop := ∃ p ln co fa, WLx ws B l.length p ln co fa ∧ WLd l p ln co fa
theorem WLAt.keep {ws ws' : xW} {B : Nat} {l : List Wy} (h : WLAt ws B l) (hq : ∀ q, B ≤ q → q < B + 12 → ws' q = ws q) : WLAt ws' B l := by
  obtain ⟨p, ln, co, fa, ⟨h1, h2, h3, h4⟩, h5⟩ := h
  exact ⟨p, ln, co, fa, ⟨(hq _ (by omega) (by omega)).trans h1, (hq _ (by omega) (by omega)).trans h2, fun j hj => (hq _ (by omega) (by omega)).trans (h3 j hj), fun j hj => (hq _ (by omega) (by omega)).trans (h4 j hj)⟩, h5⟩
theorem w_has {B : Nat} {L : List Wy} (hW : WLAt ws B L) {v : Int} (h1 : -2147483648 ≤ v) (h2 : v < 2147483648) : xM l tX7_has d 0 0 [.ref B, .int (I v)] n ws (fun r n' ws' => r = some (.int (I (if 0 ≤ v ∧ v < L.length then 1 else 0))) ∧ n' = n ∧ ws' = ws) := by
  obtain ⟨p, ln, co, fa, ⟨c1, c2, c3, c4⟩, d1, d2, d3, d4⟩ := hW
  refine xM.of (by decide) (Nat.le_of_ble_eq_true rfl) ?_
  simp only [lv_args, cat_int, cat_ref, cat_long, reduceIte, Nat.reduceEqDiff, Nat.reduceAdd, Nat.one_ne_zero, Nat.reduceLeDiff]
  refine xN_ok (t := tX7_has) rfl (T := AX7_has) aX7_has 4 _ _ _ _ _ _ _ ?_
  simp only [AX7_has, oX7_has_0, oX7_has_16, oX7_has_17, rX7_has, x_iconst, x_bipush, x_sipush, x_lconst, x_iload, x_lload, x_aload, x_istore, x_lstore, x_astore, x_iinc, x_iadd, x_isub, x_imul, x_iand, x_ior, x_ixor, x_ishl, x_ishr, x_ineg, x_ladd, x_lsub, x_lmul, x_ldiv, x_lrem, x_lcmp, x_i2l, x_l2i, x_dup, x_dup_x1, x_dup2, x_if_eq, x_if_ne, x_if_lt, x_if_ge, x_if_gt, x_if_le, x_ic_eq, x_ic_ne, x_ic_lt, x_ic_ge, x_ic_gt, x_ic_le, x_goto, x_ireturn, x_lreturn, x_return, x_getfield, x_putfield, x_iaload, x_baload, x_laload, x_aaload, x_iastore, x_bastore, x_lastore, x_aastore, x_arraylength, x_newarray, x_anewarray, x_new, x_iload_0, x_iload_1, x_iload_2, x_iload_3, x_lload_0, x_lload_1, x_lload_2, x_lload_3, x_aload_0, x_aload_1, x_aload_2, x_aload_3, x_istore_0, x_istore_1, x_istore_2, x_istore_3, x_lstore_0, x_lstore_1, x_lstore_2, x_lstore_3, x_astore_0, x_astore_1, x_astore_2, x_astore_3, q_bipush_m3, q_bipush_m2, q_bipush_6, q_bipush_7, q_bipush_9, q_bipush_10, q_bipush_24, q_bipush_30, q_bipush_48, q_bipush_100, q_sipush_300, q_sipush_1000, q_sipush_24001, q_l0, q_l1, xtc_0_0, xtc_0_1, xtc_0_2, xtc_0_3, xtc_0_4, xtc_0_5, xtc_1_0, xtc_1_1, xtc_1_2, xtc_2_0, xtc_2_1, xtc_3_0, xtc_4_0, xtc_4_1, xtc_4_2, xtc_4_3, xtc_4_4, xtc_4_5, xtc_4_6, xtc_4_7, xtc_4_8, xtc_4_9, xtc_4_10, xtc_4_11, xtc_4_12, xtc_5_0, xtc_5_1, xtc_5_2, xtc_5_3, xtc_5_4, xtc_5_5, xtc_5_6, xtc_6_0, xtc_6_1, xtc_6_2, xtc_7_0, xtc_7_1, xtc_8_0, xtc_8_1, xtc_8_2, xtc_8_3, xtc_9_0, xtc_9_1, xtc_9_2, xtc_9_3, xtc_9_4, xtc_9_5, xtc_9_6, xtc_9_7, xtc_9_8, xtc_9_9, xtc_10_0, xtc_10_1, xtc_10_2, xtc_10_3, xtc_10_4, xtc_10_5, xtc_10_6, xtc_10_7, xtc_10_8, xtc_10_9, xtc_10_10, xtc_10_11, xtc_10_12, xtc_10_13, xtc_10_14, xtc_10_15, xtc_10_16, xtc_10_17, xtc_10_18, xtc_10_19, xtc_10_20, xtc_10_21, xtc_10_22, xtc_10_23, xtc_10_24, xtc_10_25, eq_self, reduceIte, Nat.reduceEqDiff, Nat.reduceAdd, Nat.reduceSub, Nat.zero_ne_one, Nat.one_ne_zero, Nat.succ_ne_zero, Nat.reduceLeDiff, reduceCtorEq, and_true, true_and, and_false, false_and, true_implies, false_implies, implies_true, not_true_eq_false, not_false_eq_true, xN_0, xN_s, xlook_c, xlook_n, xb_nil, xb_cons, xlen, xl_cons, xst_def, xst2_def, xdl_nil, xdl_int, xdl_ref, xdl_long, xrv_some, xfit_int, xfit_long, xfit_ref, cat_int, cat_ref, cat_long, xret_int, xret_bool, or_true, true_or, Option.some.injEq, Value.int.injEq, Value.ref.injEq, Value.long.injEq, List.getElem?_cons_zero, List.getElem?_cons_succ, List.set_cons_zero, List.set_cons_succ, List.length_cons, List.length_nil, xup_xup, Classical.not_not, Nat.reduceLT, Nat.zero_lt_succ, c1]
  simp (disch := omega) only [I_lt, I_le, I_eq, I_in, I_add, I_sub, I_mul, I_b0, I_b01, b_eq0, b_eq1, Classical.not_not, ra_get, ra_set, ra_len, Int.toNat_natCast, eq_self, true_and, and_true, ne_eq, not_false_eq_true, not_true_eq_false]
  refine ⟨fun h => ?_, fun h => ⟨fun h3 => ?_, fun h3 => ?_⟩⟩
  · rw [if_neg (by omega)]
  · rw [if_neg (by omega)]
  · rw [if_pos (by omega)]
theorem w_hasPlaceFor {B : Nat} {L : List Wy} (hW : WLAt ws B L) {v : Int} (h1 : -2147483648 ≤ v) (h2 : v < 2147483648) : xM l tX7_hasPlaceFor d 0 0 [.ref B, .int (I v)] n ws (fun r n' ws' => r = some (.int (I (if L.length < 5 ∨ (∀ z, L[4]? = some z → v < z.1) then 1 else 0))) ∧ n' = n ∧ ws' = ws) := by
  obtain ⟨p, ln, co, fa, ⟨c1, c2, c3, c4⟩, d1, d2, d3, d4⟩ := hW
  have e4 := c3 (p 4) (d1 4 (by omega))
  have g4 : (ro 5 (fun k => some (B + 2 + 2 * p k))).getD (I 4).toNatClampNeg none = some (B + 2 + 2 * p 4) := ro_get (by omega) (by omega) (by omega)
  refine xM.of (by decide) (Nat.le_of_ble_eq_true rfl) ?_
  simp only [lv_args, cat_int, cat_ref, cat_long, reduceIte, Nat.reduceEqDiff, Nat.reduceAdd, Nat.one_ne_zero, Nat.reduceLeDiff]
  by_cases h5 : L.length < 5
  · refine xN_ok (t := tX7_hasPlaceFor) rfl (T := AX7_hasPlaceFor) aX7_hasPlaceFor 4 _ _ _ _ _ _ _ ?_
    simp only [AX7_hasPlaceFor, oX7_hasPlaceFor_0, oX7_hasPlaceFor_21, oX7_hasPlaceFor_25, oX7_hasPlaceFor_26, rX7_hasPlaceFor, x_iconst, x_bipush, x_sipush, x_lconst, x_iload, x_lload, x_aload, x_istore, x_lstore, x_astore, x_iinc, x_iadd, x_isub, x_imul, x_iand, x_ior, x_ixor, x_ishl, x_ishr, x_ineg, x_ladd, x_lsub, x_lmul, x_ldiv, x_lrem, x_lcmp, x_i2l, x_l2i, x_dup, x_dup_x1, x_dup2, x_if_eq, x_if_ne, x_if_lt, x_if_ge, x_if_gt, x_if_le, x_ic_eq, x_ic_ne, x_ic_lt, x_ic_ge, x_ic_gt, x_ic_le, x_goto, x_ireturn, x_lreturn, x_return, x_getfield, x_putfield, x_iaload, x_baload, x_laload, x_aaload, x_iastore, x_bastore, x_lastore, x_aastore, x_arraylength, x_newarray, x_anewarray, x_new, x_iload_0, x_iload_1, x_iload_2, x_iload_3, x_lload_0, x_lload_1, x_lload_2, x_lload_3, x_aload_0, x_aload_1, x_aload_2, x_aload_3, x_istore_0, x_istore_1, x_istore_2, x_istore_3, x_lstore_0, x_lstore_1, x_lstore_2, x_lstore_3, x_astore_0, x_astore_1, x_astore_2, x_astore_3, q_bipush_m3, q_bipush_m2, q_bipush_6, q_bipush_7, q_bipush_9, q_bipush_10, q_bipush_24, q_bipush_30, q_bipush_48, q_bipush_100, q_sipush_300, q_sipush_1000, q_sipush_24001, q_l0, q_l1, xtc_0_0, xtc_0_1, xtc_0_2, xtc_0_3, xtc_0_4, xtc_0_5, xtc_1_0, xtc_1_1, xtc_1_2, xtc_2_0, xtc_2_1, xtc_3_0, xtc_4_0, xtc_4_1, xtc_4_2, xtc_4_3, xtc_4_4, xtc_4_5, xtc_4_6, xtc_4_7, xtc_4_8, xtc_4_9, xtc_4_10, xtc_4_11, xtc_4_12, xtc_5_0, xtc_5_1, xtc_5_2, xtc_5_3, xtc_5_4, xtc_5_5, xtc_5_6, xtc_6_0, xtc_6_1, xtc_6_2, xtc_7_0, xtc_7_1, xtc_8_0, xtc_8_1, xtc_8_2, xtc_8_3, xtc_9_0, xtc_9_1, xtc_9_2, xtc_9_3, xtc_9_4, xtc_9_5, xtc_9_6, xtc_9_7, xtc_9_8, xtc_9_9, xtc_10_0, xtc_10_1, xtc_10_2, xtc_10_3, xtc_10_4, xtc_10_5, xtc_10_6, xtc_10_7, xtc_10_8, xtc_10_9, xtc_10_10, xtc_10_11, xtc_10_12, xtc_10_13, xtc_10_14, xtc_10_15, xtc_10_16, xtc_10_17, xtc_10_18, xtc_10_19, xtc_10_20, xtc_10_21, xtc_10_22, xtc_10_23, xtc_10_24, xtc_10_25, eq_self, reduceIte, Nat.reduceEqDiff, Nat.reduceAdd, Nat.reduceSub, Nat.zero_ne_one, Nat.one_ne_zero, Nat.succ_ne_zero, Nat.reduceLeDiff, reduceCtorEq, and_true, true_and, and_false, false_and, true_implies, false_implies, implies_true, not_true_eq_false, not_false_eq_true, xN_0, xN_s, xlook_c, xlook_n, xb_nil, xb_cons, xlen, xl_cons, xst_def, xst2_def, xdl_nil, xdl_int, xdl_ref, xdl_long, xrv_some, xfit_int, xfit_long, xfit_ref, cat_int, cat_ref, cat_long, xret_int, xret_bool, or_true, true_or, Option.some.injEq, Value.int.injEq, Value.ref.injEq, Value.long.injEq, List.getElem?_cons_zero, List.getElem?_cons_succ, List.set_cons_zero, List.set_cons_succ, List.length_cons, List.length_nil, xup_xup, Classical.not_not, Nat.reduceLT, Nat.zero_lt_succ, c1, c2, e4, ro_len, g4]
    simp (disch := omega) only [I_lt, I_le, I_eq, I_in, I_add, I_sub, I_mul, I_b0, I_b01, b_eq0, b_eq1, Classical.not_not, ra_get, ra_set, ra_len, Int.toNat_natCast, eq_self, true_and, and_true, ne_eq, not_false_eq_true, not_true_eq_false]
    exact ⟨fun _ => by simp [h5], fun h => absurd h (by omega)⟩
  · obtain ⟨z, hz⟩ : ∃ z, L[4]? = some z := ⟨L[4], List.getElem?_eq_getElem (by omega)⟩
    obtain ⟨q1, q2, q3, q4, q5, q6⟩ := d4 4 z hz
    refine xN_ok (t := tX7_hasPlaceFor) rfl (T := AX7_hasPlaceFor) aX7_hasPlaceFor 4 _ _ _ _ _ _ _ ?_
    simp only [AX7_hasPlaceFor, oX7_hasPlaceFor_0, oX7_hasPlaceFor_21, oX7_hasPlaceFor_25, oX7_hasPlaceFor_26, rX7_hasPlaceFor, x_iconst, x_bipush, x_sipush, x_lconst, x_iload, x_lload, x_aload, x_istore, x_lstore, x_astore, x_iinc, x_iadd, x_isub, x_imul, x_iand, x_ior, x_ixor, x_ishl, x_ishr, x_ineg, x_ladd, x_lsub, x_lmul, x_ldiv, x_lrem, x_lcmp, x_i2l, x_l2i, x_dup, x_dup_x1, x_dup2, x_if_eq, x_if_ne, x_if_lt, x_if_ge, x_if_gt, x_if_le, x_ic_eq, x_ic_ne, x_ic_lt, x_ic_ge, x_ic_gt, x_ic_le, x_goto, x_ireturn, x_lreturn, x_return, x_getfield, x_putfield, x_iaload, x_baload, x_laload, x_aaload, x_iastore, x_bastore, x_lastore, x_aastore, x_arraylength, x_newarray, x_anewarray, x_new, x_iload_0, x_iload_1, x_iload_2, x_iload_3, x_lload_0, x_lload_1, x_lload_2, x_lload_3, x_aload_0, x_aload_1, x_aload_2, x_aload_3, x_istore_0, x_istore_1, x_istore_2, x_istore_3, x_lstore_0, x_lstore_1, x_lstore_2, x_lstore_3, x_astore_0, x_astore_1, x_astore_2, x_astore_3, q_bipush_m3, q_bipush_m2, q_bipush_6, q_bipush_7, q_bipush_9, q_bipush_10, q_bipush_24, q_bipush_30, q_bipush_48, q_bipush_100, q_sipush_300, q_sipush_1000, q_sipush_24001, q_l0, q_l1, xtc_0_0, xtc_0_1, xtc_0_2, xtc_0_3, xtc_0_4, xtc_0_5, xtc_1_0, xtc_1_1, xtc_1_2, xtc_2_0, xtc_2_1, xtc_3_0, xtc_4_0, xtc_4_1, xtc_4_2, xtc_4_3, xtc_4_4, xtc_4_5, xtc_4_6, xtc_4_7, xtc_4_8, xtc_4_9, xtc_4_10, xtc_4_11, xtc_4_12, xtc_5_0, xtc_5_1, xtc_5_2, xtc_5_3, xtc_5_4, xtc_5_5, xtc_5_6, xtc_6_0, xtc_6_1, xtc_6_2, xtc_7_0, xtc_7_1, xtc_8_0, xtc_8_1, xtc_8_2, xtc_8_3, xtc_9_0, xtc_9_1, xtc_9_2, xtc_9_3, xtc_9_4, xtc_9_5, xtc_9_6, xtc_9_7, xtc_9_8, xtc_9_9, xtc_10_0, xtc_10_1, xtc_10_2, xtc_10_3, xtc_10_4, xtc_10_5, xtc_10_6, xtc_10_7, xtc_10_8, xtc_10_9, xtc_10_10, xtc_10_11, xtc_10_12, xtc_10_13, xtc_10_14, xtc_10_15, xtc_10_16, xtc_10_17, xtc_10_18, xtc_10_19, xtc_10_20, xtc_10_21, xtc_10_22, xtc_10_23, xtc_10_24, xtc_10_25, eq_self, reduceIte, Nat.reduceEqDiff, Nat.reduceAdd, Nat.reduceSub, Nat.zero_ne_one, Nat.one_ne_zero, Nat.succ_ne_zero, Nat.reduceLeDiff, reduceCtorEq, and_true, true_and, and_false, false_and, true_implies, false_implies, implies_true, not_true_eq_false, not_false_eq_true, xN_0, xN_s, xlook_c, xlook_n, xb_nil, xb_cons, xlen, xl_cons, xst_def, xst2_def, xdl_nil, xdl_int, xdl_ref, xdl_long, xrv_some, xfit_int, xfit_long, xfit_ref, cat_int, cat_ref, cat_long, xret_int, xret_bool, or_true, true_or, Option.some.injEq, Value.int.injEq, Value.ref.injEq, Value.long.injEq, List.getElem?_cons_zero, List.getElem?_cons_succ, List.set_cons_zero, List.set_cons_succ, List.length_cons, List.length_nil, xup_xup, Classical.not_not, Nat.reduceLT, Nat.zero_lt_succ, c1, c2, e4, ro_len, g4]
    rw [q1]
    simp (disch := omega) only [I_lt, I_le, I_eq, I_in, I_add, I_sub, I_mul, I_b0, I_b01, b_eq0, b_eq1, Classical.not_not, ra_get, ra_set, ra_len, Int.toNat_natCast, eq_self, true_and, and_true, ne_eq, not_false_eq_true, not_true_eq_false]
    refine ⟨fun h => absurd h (by omega), fun _ => ⟨by omega, fun h => ?_, fun h => ?_⟩⟩
    · rw [if_neg]
      rintro (h6 | h6)
      · exact h5 h6
      · have := h6 z hz; omega
    · rw [if_pos]
      exact Or.inr (fun z' hz' => by rw [hz] at hz'; cases hz'; omega)
/-- where a way of a cost goes in a sorted list -/
def cnt (l : List Wy) (c : Int) : Nat := match l with
  | [] => 0
  | y :: l => if y.1 ≤ c then cnt l c + 1 else 0
theorem cnt_le (l : List Wy) (c : Int) : cnt l c ≤ l.length := by
  induction l with
  | nil => simp [cnt]
  | cons y l ih => unfold cnt; split <;> simp; omega
theorem insS_cnt (l : List Wy) (x : Wy) : insS l x = l.take (cnt l x.1) ++ x :: l.drop (cnt l x.1) := by
  induction l with
  | nil => simp [insS, cnt]
  | cons y l ih =>
    unfold insS cnt
    split
    · simp [ih]
    · simp
theorem cnt_lt {l : List Wy} {c : Int} : ∀ {k : Nat} {z : Wy}, l[k]? = some z → k < cnt l c → z.1 ≤ c := by
  induction l with
  | nil => intro k z h; simp at h
  | cons y l ih =>
    intro k z h hk
    unfold cnt at hk
    split at hk
    · next hy =>
      cases k with
      | zero => simp at h; subst h; exact hy
      | succ k => exact ih (by simpa using h) (by omega)
    · omega
theorem cnt_ge {l : List Wy} {c : Int} (hs : srt l) : ∀ {k : Nat} {z : Wy}, l[k]? = some z → cnt l c ≤ k → c < z.1 := by
  induction l with
  | nil => intro k z h; simp at h
  | cons y l ih =>
    intro k z h hk
    have hp := List.pairwise_cons.mp hs
    unfold cnt at hk
    split at hk
    · cases k with
      | zero => omega
      | succ k => exact ih hp.2 (by simpa using h) (by omega)
    · next hy =>
      cases k with
      | zero => simp at h; subst h; omega
      | succ k =>
        have hm : z ∈ l := List.mem_of_getElem? (by simpa using h)
        have := hp.1 z hm
        omega
/-- the first five, place by place -/
theorem ins5_get {l : List Wy} {x : Wy} {k : Nat} (hk : k < 5) : (ins5 l x)[k]? = if k < cnt l x.1 then l[k]? else if k = cnt l x.1 then some x else l[k - 1]? := by
  have hc := cnt_le l x.1
  unfold ins5
  rw [List.getElem?_take_of_lt hk, insS_cnt]
  by_cases h1 : k < cnt l x.1
  · rw [if_pos h1, List.getElem?_append_left (by rw [List.length_take]; omega), List.getElem?_take_of_lt h1]
  · rw [if_neg h1, List.getElem?_append_right (by rw [List.length_take]; omega), List.length_take, Nat.min_eq_left hc]
    by_cases h2 : k = cnt l x.1
    · rw [if_pos h2, h2]; simp
    · rw [if_neg h2]
      obtain ⟨j, hj⟩ : ∃ j, k - cnt l x.1 = j + 1 := ⟨k - cnt l x.1 - 1, by omega⟩
      rw [hj, List.getElem?_cons_succ, List.getElem?_drop]
      congr 1
      omega
end WL
end
section
section INS
/-- where the k-th of the new list stood -/
def sg (c p0 k : Nat) : Nat := if k < c then k else if k = c then p0 else if k ≤ p0 then k - 1 else k
theorem sg_lt {c p0 k : Nat} (h : p0 ≤ 4) (hk : k < 5) : sg c p0 k < 5 := by unfold sg; repeat (first | omega | split)
theorem sg_inj {c p0 k j : Nat} (hc : c ≤ p0) (h : p0 ≤ 4) (e : sg c p0 k = sg c p0 j) : k = j := by
  unfold sg at e
  repeat (first | omega | split at e)
variable {l : Launch} {d n : Nat} {ws : xW}
def shf (p : Nat → Nat) (B c p0 : Nat) : Nat → Option Nat := fun k => if c < k ∧ k ≤ p0 then some (B + 2 + 2 * p (k - 1)) else some (B + 2 + 2 * p k)
theorem w_insert {B steps : Nat} {L : List Wy} {c : Int} {ft : Nat → Int} {pre : List Nat} (hd : 1 ≤ d) (hW : WLAt ws B L) (hs : srt L) (hB : 14 ≤ B) (h12 : ws 12 = some (0, .inl (ra 9 ft))) (hst : pre.length = steps) (hs9 : steps ≤ 9) (hpre : ∀ (i a : Nat), pre[i]? = some a → ft i = a) (hc0 : 0 ≤ c) (hc9 : c ≤ 900) (hpl : L.length < 5 ∨ ∀ z, L[4]? = some z → c < z.1) : xM l tX7_insert d 0 0 [.ref B, .ref 12, .int (I steps), .int (I c)] n ws (fun r n' ws' => r = none ∧ n' = n ∧ WLAt ws' B (ins5 L (c, pre)) ∧ ∀ q, q < B ∨ B + 12 ≤ q → ws' q = ws q) := by
  obtain ⟨p, ln, co, fa, ⟨c1, c2, c3, c4⟩, d1, d2, d3, d4⟩ := hW
  generalize hQ : (fun (r : Option Value) (n' : Nat) (ws' : xW) => r = none ∧ n' = n ∧ WLAt ws' B (ins5 L (c, pre)) ∧ ∀ q, q < B ∨ B + 12 ≤ q → ws' q = ws q) = Q
  have hcl := cnt_le L c
  have hc4 : cnt L c ≤ 4 := by
    rcases hpl with h | h
    · omega
    · by_cases h5 : L.length < 5
      · omega
      · have h6 : L[4]? = some L[4] := List.getElem?_eq_getElem (by omega)
        have h7 := h _ h6
        by_cases h8 : cnt L c ≤ 4
        · exact h8
        · have := cnt_lt (c := c) h6 (by omega)
          omega
  obtain ⟨p0, hp0⟩ : ∃ p0 : Nat, p0 = min L.length 4 := ⟨_, rfl⟩
  have hpp : p p0 < 5 := d1 p0 (by omega)
  have g0 : (ro 5 (fun k => some (B + 2 + 2 * p k))).getD (I p0).toNatClampNeg none = some (B + 2 + 2 * p p0) := by
    have := ro_get (n := 5) (f := fun k => some (B + 2 + 2 * p k)) (j := p0) (by omega) (by omega) (by omega)
    rw [this, Int.toNat_natCast]
  have hmin : (if I 4 < I (L.length : Nat) then I 4 else I (L.length : Nat)) = I p0 := by
    simp (disch := omega) only [I_lt, I_le, I_eq, I_in, I_add, I_sub, I_mul, I_b0, I_b01, b_eq0, b_eq1, Classical.not_not, ra_get, ra_set, ra_len, Int.toNat_natCast, eq_self, true_and, and_true, ne_eq, not_false_eq_true, not_true_eq_false]
    by_cases h : (4 : Int) < (L.length : Int)
    · rw [if_pos h]; congr 1; omega
    · rw [if_neg h]; congr 1; omega
  refine xM.of (by decide) (Nat.le_of_ble_eq_true rfl) ?_
  simp only [lv_args, cat_int, cat_ref, cat_long, reduceIte, Nat.reduceEqDiff, Nat.reduceAdd, Nat.one_ne_zero, Nat.reduceLeDiff]
  refine xN_ok (t := tX7_insert) rfl (T := AX7_insert) aX7_insert 1 _ _ _ _ _ _ _ ?_
  simp only [AX7_insert, oX7_insert_0, oX7_insert_8, oX7_insert_19, oX7_insert_62, oX7_insert_70, oX7_insert_90, rX7_insert, x_iconst, x_bipush, x_sipush, x_lconst, x_iload, x_lload, x_aload, x_istore, x_lstore, x_astore, x_iinc, x_iadd, x_isub, x_imul, x_iand, x_ior, x_ixor, x_ishl, x_ishr, x_ineg, x_ladd, x_lsub, x_lmul, x_ldiv, x_lrem, x_lcmp, x_i2l, x_l2i, x_dup, x_dup_x1, x_dup2, x_if_eq, x_if_ne, x_if_lt, x_if_ge, x_if_gt, x_if_le, x_ic_eq, x_ic_ne, x_ic_lt, x_ic_ge, x_ic_gt, x_ic_le, x_goto, x_ireturn, x_lreturn, x_return, x_getfield, x_putfield, x_iaload, x_baload, x_laload, x_aaload, x_iastore, x_bastore, x_lastore, x_aastore, x_arraylength, x_newarray, x_anewarray, x_new, x_iload_0, x_iload_1, x_iload_2, x_iload_3, x_lload_0, x_lload_1, x_lload_2, x_lload_3, x_aload_0, x_aload_1, x_aload_2, x_aload_3, x_istore_0, x_istore_1, x_istore_2, x_istore_3, x_lstore_0, x_lstore_1, x_lstore_2, x_lstore_3, x_astore_0, x_astore_1, x_astore_2, x_astore_3, q_bipush_m3, q_bipush_m2, q_bipush_6, q_bipush_7, q_bipush_9, q_bipush_10, q_bipush_24, q_bipush_30, q_bipush_48, q_bipush_100, q_sipush_300, q_sipush_1000, q_sipush_24001, q_l0, q_l1, xtc_0_0, xtc_0_1, xtc_0_2, xtc_0_3, xtc_0_4, xtc_0_5, xtc_1_0, xtc_1_1, xtc_1_2, xtc_2_0, xtc_2_1, xtc_3_0, xtc_4_0, xtc_4_1, xtc_4_2, xtc_4_3, xtc_4_4, xtc_4_5, xtc_4_6, xtc_4_7, xtc_4_8, xtc_4_9, xtc_4_10, xtc_4_11, xtc_4_12, xtc_5_0, xtc_5_1, xtc_5_2, xtc_5_3, xtc_5_4, xtc_5_5, xtc_5_6, xtc_6_0, xtc_6_1, xtc_6_2, xtc_7_0, xtc_7_1, xtc_8_0, xtc_8_1, xtc_8_2, xtc_8_3, xtc_9_0, xtc_9_1, xtc_9_2, xtc_9_3, xtc_9_4, xtc_9_5, xtc_9_6, xtc_9_7, xtc_9_8, xtc_9_9, xtc_10_0, xtc_10_1, xtc_10_2, xtc_10_3, xtc_10_4, xtc_10_5, xtc_10_6, xtc_10_7, xtc_10_8, xtc_10_9, xtc_10_10, xtc_10_11, xtc_10_12, xtc_10_13, xtc_10_14, xtc_10_15, xtc_10_16, xtc_10_17, xtc_10_18, xtc_10_19, xtc_10_20, xtc_10_21, xtc_10_22, xtc_10_23, xtc_10_24, xtc_10_25, eq_self, reduceIte, Nat.reduceEqDiff, Nat.reduceAdd, Nat.reduceSub, Nat.zero_ne_one, Nat.one_ne_zero, Nat.succ_ne_zero, Nat.reduceLeDiff, reduceCtorEq, and_true, true_and, and_false, false_and, true_implies, false_implies, implies_true, not_true_eq_false, not_false_eq_true, xN_0, xN_s, xlook_c, xlook_n, xb_nil, xb_cons, xlen, xl_cons, xst_def, xst2_def, xdl_nil, xdl_int, xdl_ref, xdl_long, xrv_some, xfit_int, xfit_long, xfit_ref, cat_int, cat_ref, cat_long, xret_int, xret_bool, or_true, true_or, Option.some.injEq, Value.int.injEq, Value.ref.injEq, Value.long.injEq, List.getElem?_cons_zero, List.getElem?_cons_succ, List.set_cons_zero, List.set_cons_succ, List.length_cons, List.length_nil, xup_xup, Classical.not_not, Nat.reduceLT, Nat.zero_lt_succ, c1]
  refine cX7_insert_5 (by omega) (Nat.le_of_ble_eq_true rfl) ?_
  rw [hmin]
  -- the walk to the left
  have fin : xX l tX7_insert d 0 0 Q 0 0 62 [(0, .ref B), (1, .ref 12), (2, .int (I steps)), (3, .int (I c)), (4, .int (I (cnt L c))), (5, .ref (B + 2 + 2 * p p0))] [] n (xup ws (B + 1) (3, .inr (.inr (.inl (ro 5 (shf p B (cnt L c) p0)))))) := by
    have a1 : ¬ B + 2 + 2 * p p0 = B + 1 := by omega
    have a2 : ¬ B + 2 + 2 * p p0 + 1 = B + 1 := by omega
    have a3 : ¬ 12 = B + 1 := by omega
    have a4 : ¬ B = B + 1 := by omega
    have a5 : ¬ B = B + 2 + 2 * p p0 := by omega
    have a6 : ¬ B = B + 2 + 2 * p p0 + 1 := by omega
    have a7 : ¬ B + 1 = B + 2 + 2 * p p0 := by omega
    have a8 : ¬ B + 1 = B + 2 + 2 * p p0 + 1 := by omega
    have a9 : ¬ B + 1 = B := by omega
    have a10 : ¬ B + 2 + 2 * p p0 = B := by omega
    refine xN_ok (t := tX7_insert) rfl (T := AX7_insert) aX7_insert 1 _ _ _ _ _ _ _ ?_
    simp only [AX7_insert, oX7_insert_0, oX7_insert_8, oX7_insert_19, oX7_insert_62, oX7_insert_70, oX7_insert_90, rX7_insert, x_iconst, x_bipush, x_sipush, x_lconst, x_iload, x_lload, x_aload, x_istore, x_lstore, x_astore, x_iinc, x_iadd, x_isub, x_imul, x_iand, x_ior, x_ixor, x_ishl, x_ishr, x_ineg, x_ladd, x_lsub, x_lmul, x_ldiv, x_lrem, x_lcmp, x_i2l, x_l2i, x_dup, x_dup_x1, x_dup2, x_if_eq, x_if_ne, x_if_lt, x_if_ge, x_if_gt, x_if_le, x_ic_eq, x_ic_ne, x_ic_lt, x_ic_ge, x_ic_gt, x_ic_le, x_goto, x_ireturn, x_lreturn, x_return, x_getfield, x_putfield, x_iaload, x_baload, x_laload, x_aaload, x_iastore, x_bastore, x_lastore, x_aastore, x_arraylength, x_newarray, x_anewarray, x_new, x_iload_0, x_iload_1, x_iload_2, x_iload_3, x_lload_0, x_lload_1, x_lload_2, x_lload_3, x_aload_0, x_aload_1, x_aload_2, x_aload_3, x_istore_0, x_istore_1, x_istore_2, x_istore_3, x_lstore_0, x_lstore_1, x_lstore_2, x_lstore_3, x_astore_0, x_astore_1, x_astore_2, x_astore_3, q_bipush_m3, q_bipush_m2, q_bipush_6, q_bipush_7, q_bipush_9, q_bipush_10, q_bipush_24, q_bipush_30, q_bipush_48, q_bipush_100, q_sipush_300, q_sipush_1000, q_sipush_24001, q_l0, q_l1, xtc_0_0, xtc_0_1, xtc_0_2, xtc_0_3, xtc_0_4, xtc_0_5, xtc_1_0, xtc_1_1, xtc_1_2, xtc_2_0, xtc_2_1, xtc_3_0, xtc_4_0, xtc_4_1, xtc_4_2, xtc_4_3, xtc_4_4, xtc_4_5, xtc_4_6, xtc_4_7, xtc_4_8, xtc_4_9, xtc_4_10, xtc_4_11, xtc_4_12, xtc_5_0, xtc_5_1, xtc_5_2, xtc_5_3, xtc_5_4, xtc_5_5, xtc_5_6, xtc_6_0, xtc_6_1, xtc_6_2, xtc_7_0, xtc_7_1, xtc_8_0, xtc_8_1, xtc_8_2, xtc_8_3, xtc_9_0, xtc_9_1, xtc_9_2, xtc_9_3, xtc_9_4, xtc_9_5, xtc_9_6, xtc_9_7, xtc_9_8, xtc_9_9, xtc_10_0, xtc_10_1, xtc_10_2, xtc_10_3, xtc_10_4, xtc_10_5, xtc_10_6, xtc_10_7, xtc_10_8, xtc_10_9, xtc_10_10, xtc_10_11, xtc_10_12, xtc_10_13, xtc_10_14, xtc_10_15, xtc_10_16, xtc_10_17, xtc_10_18, xtc_10_19, xtc_10_20, xtc_10_21, xtc_10_22, xtc_10_23, xtc_10_24, xtc_10_25, eq_self, reduceIte, Nat.reduceEqDiff, Nat.reduceAdd, Nat.reduceSub, Nat.zero_ne_one, Nat.one_ne_zero, Nat.succ_ne_zero, Nat.reduceLeDiff, reduceCtorEq, and_true, true_and, and_false, false_and, true_implies, false_implies, implies_true, not_true_eq_false, not_false_eq_true, xN_0, xN_s, xlook_c, xlook_n, xb_nil, xb_cons, xlen, xl_cons, xst_def, xst2_def, xdl_nil, xdl_int, xdl_ref, xdl_long, xrv_some, xfit_int, xfit_long, xfit_ref, cat_int, cat_ref, cat_long, xret_int, xret_bool, or_true, true_or, Option.some.injEq, Value.int.injEq, Value.ref.injEq, Value.long.injEq, List.getElem?_cons_zero, List.getElem?_cons_succ, List.set_cons_zero, List.set_cons_succ, List.length_cons, List.length_nil, xup_xup, Classical.not_not, Nat.reduceLT, Nat.zero_lt_succ]
    refine cX7_insert_67 (dc := 0) (cc := 0) (cs := 0) ((xup_ne _ _ a1).trans (c3 _ hpp)) (by omega) (by omega) (by omega) (Nat.le_of_ble_eq_true rfl) (w_copyFrom (by omega) ((xup_ne _ _ a1).trans (c3 _ hpp)) ((xup_ne _ _ a2).trans (c4 _ hpp)) ((xup_ne _ _ a3).trans h12) hs9) ?_
    rintro r n1 ws1 ⟨rfl, rfl, f', hf', rfl⟩
    simp only [Option.toList_some, Option.toList_none, List.cons_append, List.nil_append, Nat.sub_zero, Nat.reduceSub, Nat.sub_self]
    have e6 : (ro 5 (shf p B (cnt L c) p0)).set (I (cnt L c)).toNatClampNeg (some (B + 2 + 2 * p p0)) = ro 5 (fo (shf p B (cnt L c) p0) (cnt L c) (some (B + 2 + 2 * p p0))) := by
      rw [ro_set (by omega) (by omega), Int.toNat_natCast]
    refine xN_ok (t := tX7_insert) rfl (T := AX7_insert) aX7_insert 1 _ _ _ _ _ _ _ ?_
    simp only [AX7_insert, oX7_insert_0, oX7_insert_8, oX7_insert_19, oX7_insert_62, oX7_insert_70, oX7_insert_90, rX7_insert, x_iconst, x_bipush, x_sipush, x_lconst, x_iload, x_lload, x_aload, x_istore, x_lstore, x_astore, x_iinc, x_iadd, x_isub, x_imul, x_iand, x_ior, x_ixor, x_ishl, x_ishr, x_ineg, x_ladd, x_lsub, x_lmul, x_ldiv, x_lrem, x_lcmp, x_i2l, x_l2i, x_dup, x_dup_x1, x_dup2, x_if_eq, x_if_ne, x_if_lt, x_if_ge, x_if_gt, x_if_le, x_ic_eq, x_ic_ne, x_ic_lt, x_ic_ge, x_ic_gt, x_ic_le, x_goto, x_ireturn, x_lreturn, x_return, x_getfield, x_putfield, x_iaload, x_baload, x_laload, x_aaload, x_iastore, x_bastore, x_lastore, x_aastore, x_arraylength, x_newarray, x_anewarray, x_new, x_iload_0, x_iload_1, x_iload_2, x_iload_3, x_lload_0, x_lload_1, x_lload_2, x_lload_3, x_aload_0, x_aload_1, x_aload_2, x_aload_3, x_istore_0, x_istore_1, x_istore_2, x_istore_3, x_lstore_0, x_lstore_1, x_lstore_2, x_lstore_3, x_astore_0, x_astore_1, x_astore_2, x_astore_3, q_bipush_m3, q_bipush_m2, q_bipush_6, q_bipush_7, q_bipush_9, q_bipush_10, q_bipush_24, q_bipush_30, q_bipush_48, q_bipush_100, q_sipush_300, q_sipush_1000, q_sipush_24001, q_l0, q_l1, xtc_0_0, xtc_0_1, xtc_0_2, xtc_0_3, xtc_0_4, xtc_0_5, xtc_1_0, xtc_1_1, xtc_1_2, xtc_2_0, xtc_2_1, xtc_3_0, xtc_4_0, xtc_4_1, xtc_4_2, xtc_4_3, xtc_4_4, xtc_4_5, xtc_4_6, xtc_4_7, xtc_4_8, xtc_4_9, xtc_4_10, xtc_4_11, xtc_4_12, xtc_5_0, xtc_5_1, xtc_5_2, xtc_5_3, xtc_5_4, xtc_5_5, xtc_5_6, xtc_6_0, xtc_6_1, xtc_6_2, xtc_7_0, xtc_7_1, xtc_8_0, xtc_8_1, xtc_8_2, xtc_8_3, xtc_9_0, xtc_9_1, xtc_9_2, xtc_9_3, xtc_9_4, xtc_9_5, xtc_9_6, xtc_9_7, xtc_9_8, xtc_9_9, xtc_10_0, xtc_10_1, xtc_10_2, xtc_10_3, xtc_10_4, xtc_10_5, xtc_10_6, xtc_10_7, xtc_10_8, xtc_10_9, xtc_10_10, xtc_10_11, xtc_10_12, xtc_10_13, xtc_10_14, xtc_10_15, xtc_10_16, xtc_10_17, xtc_10_18, xtc_10_19, xtc_10_20, xtc_10_21, xtc_10_22, xtc_10_23, xtc_10_24, xtc_10_25, eq_self, reduceIte, Nat.reduceEqDiff, Nat.reduceAdd, Nat.reduceSub, Nat.zero_ne_one, Nat.one_ne_zero, Nat.succ_ne_zero, Nat.reduceLeDiff, reduceCtorEq, and_true, true_and, and_false, false_and, true_implies, false_implies, implies_true, not_true_eq_false, not_false_eq_true, xN_0, xN_s, xlook_c, xlook_n, xb_nil, xb_cons, xlen, xl_cons, xst_def, xst2_def, xdl_nil, xdl_int, xdl_ref, xdl_long, xrv_some, xfit_int, xfit_long, xfit_ref, cat_int, cat_ref, cat_long, xret_int, xret_bool, or_true, true_or, Option.some.injEq, Value.int.injEq, Value.ref.injEq, Value.long.injEq, List.getElem?_cons_zero, List.getElem?_cons_succ, List.set_cons_zero, List.set_cons_succ, List.length_cons, List.length_nil, xup_xup, Classical.not_not, Nat.reduceLT, Nat.zero_lt_succ, c1, xup_self, xup_ne, ne_eq, a4, a5, a6, a7, a8, a9, a10, ro_len, e6, xelt, I_add]
    simp (disch := omega) only [I_lt, I_le, I_eq, I_in, I_add, I_sub, I_mul, I_b0, I_b01, b_eq0, b_eq1, Classical.not_not, ra_get, ra_set, ra_len, Int.toNat_natCast, eq_self, true_and, and_true, ne_eq, not_false_eq_true, not_true_eq_false]
    refine ⟨by omega, ⟨_, rfl⟩, ?_⟩
    refine cX7_insert_87 (by omega) (Nat.le_of_ble_eq_true rfl) ?_
    refine xN_ok (t := tX7_insert) rfl (T := AX7_insert) aX7_insert 1 _ _ _ _ _ _ _ ?_
    simp only [AX7_insert, oX7_insert_0, oX7_insert_8, oX7_insert_19, oX7_insert_62, oX7_insert_70, oX7_insert_90, rX7_insert, x_iconst, x_bipush, x_sipush, x_lconst, x_iload, x_lload, x_aload, x_istore, x_lstore, x_astore, x_iinc, x_iadd, x_isub, x_imul, x_iand, x_ior, x_ixor, x_ishl, x_ishr, x_ineg, x_ladd, x_lsub, x_lmul, x_ldiv, x_lrem, x_lcmp, x_i2l, x_l2i, x_dup, x_dup_x1, x_dup2, x_if_eq, x_if_ne, x_if_lt, x_if_ge, x_if_gt, x_if_le, x_ic_eq, x_ic_ne, x_ic_lt, x_ic_ge, x_ic_gt, x_ic_le, x_goto, x_ireturn, x_lreturn, x_return, x_getfield, x_putfield, x_iaload, x_baload, x_laload, x_aaload, x_iastore, x_bastore, x_lastore, x_aastore, x_arraylength, x_newarray, x_anewarray, x_new, x_iload_0, x_iload_1, x_iload_2, x_iload_3, x_lload_0, x_lload_1, x_lload_2, x_lload_3, x_aload_0, x_aload_1, x_aload_2, x_aload_3, x_istore_0, x_istore_1, x_istore_2, x_istore_3, x_lstore_0, x_lstore_1, x_lstore_2, x_lstore_3, x_astore_0, x_astore_1, x_astore_2, x_astore_3, q_bipush_m3, q_bipush_m2, q_bipush_6, q_bipush_7, q_bipush_9, q_bipush_10, q_bipush_24, q_bipush_30, q_bipush_48, q_bipush_100, q_sipush_300, q_sipush_1000, q_sipush_24001, q_l0, q_l1, xtc_0_0, xtc_0_1, xtc_0_2, xtc_0_3, xtc_0_4, xtc_0_5, xtc_1_0, xtc_1_1, xtc_1_2, xtc_2_0, xtc_2_1, xtc_3_0, xtc_4_0, xtc_4_1, xtc_4_2, xtc_4_3, xtc_4_4, xtc_4_5, xtc_4_6, xtc_4_7, xtc_4_8, xtc_4_9, xtc_4_10, xtc_4_11, xtc_4_12, xtc_5_0, xtc_5_1, xtc_5_2, xtc_5_3, xtc_5_4, xtc_5_5, xtc_5_6, xtc_6_0, xtc_6_1, xtc_6_2, xtc_7_0, xtc_7_1, xtc_8_0, xtc_8_1, xtc_8_2, xtc_8_3, xtc_9_0, xtc_9_1, xtc_9_2, xtc_9_3, xtc_9_4, xtc_9_5, xtc_9_6, xtc_9_7, xtc_9_8, xtc_9_9, xtc_10_0, xtc_10_1, xtc_10_2, xtc_10_3, xtc_10_4, xtc_10_5, xtc_10_6, xtc_10_7, xtc_10_8, xtc_10_9, xtc_10_10, xtc_10_11, xtc_10_12, xtc_10_13, xtc_10_14, xtc_10_15, xtc_10_16, xtc_10_17, xtc_10_18, xtc_10_19, xtc_10_20, xtc_10_21, xtc_10_22, xtc_10_23, xtc_10_24, xtc_10_25, eq_self, reduceIte, Nat.reduceEqDiff, Nat.reduceAdd, Nat.reduceSub, Nat.zero_ne_one, Nat.one_ne_zero, Nat.succ_ne_zero, Nat.reduceLeDiff, reduceCtorEq, and_true, true_and, and_false, false_and, true_implies, false_implies, implies_true, not_true_eq_false, not_false_eq_true, xN_0, xN_s, xlook_c, xlook_n, xb_nil, xb_cons, xlen, xl_cons, xst_def, xst2_def, xdl_nil, xdl_int, xdl_ref, xdl_long, xrv_some, xfit_int, xfit_long, xfit_ref, cat_int, cat_ref, cat_long, xret_int, xret_bool, or_true, true_or, Option.some.injEq, Value.int.injEq, Value.ref.injEq, Value.long.injEq, List.getElem?_cons_zero, List.getElem?_cons_succ, List.set_cons_zero, List.set_cons_succ, List.length_cons, List.length_nil, xup_xup, Classical.not_not, Nat.reduceLT, Nat.zero_lt_succ, c1, xup_self, xup_ne, ne_eq, a4, a5, a6, a7, a8, a9, a10]
    rw [← hQ]
    have hlen := ins5_len (l := L) (x := (c, pre))
    refine ⟨rfl, rfl, ⟨fun k => p (sg (cnt L c) p0 k), fun j => if j = p p0 then (steps : Int) else ln j, fun j => if j = p p0 then c else co j, fun j => if j = p p0 then f' else fa j, ⟨?_, ?_, fun j hj => ?_, fun j hj => ?_⟩, fun k hk => d1 _ (sg_lt (by omega) hk), fun k j hk hj e => sg_inj (by omega) (by omega) (d2 _ _ (sg_lt (by omega) hk) (sg_lt (by omega) hj) e), by rw [hlen]; omega, fun k x hx => ?_⟩, fun q hq => ?_⟩
    · rw [xup_self, hlen]
      have : (if I 5 < I ((L.length : Int) + 1) then I 5 else I ((L.length : Int) + 1)) = I (min 5 (L.length + 1) : Nat) := by
        simp (disch := omega) only [I_lt, I_le, I_eq, I_in, I_add, I_sub, I_mul, I_b0, I_b01, b_eq0, b_eq1, Classical.not_not, ra_get, ra_set, ra_len, Int.toNat_natCast, eq_self, true_and, and_true, ne_eq, not_false_eq_true, not_true_eq_false]
        by_cases h : (5 : Int) < (L.length : Int) + 1
        · rw [if_pos h]; congr 1; omega
        · rw [if_neg h]; congr 1; omega
      rw [this]
    · rw [xup_ne _ _ a9, xup_self]
      congr 5
      apply ro_ext
      intro k hk
      unfold fo shf sg
      dsimp only
      by_cases h1 : k = cnt L c
      · rw [if_pos h1, if_neg (by omega), if_pos h1]
      · rw [if_neg h1]
        by_cases h2 : k < cnt L c
        · rw [if_neg (by omega), if_pos h2]
        · rw [if_neg h2, if_neg h1]
          by_cases h3 : k ≤ p0
          · rw [if_pos (by omega), if_pos h3]
          · rw [if_neg (by omega), if_neg h3]
    · rw [xup_ne _ _ (by omega), xup_ne _ _ (by omega)]
      by_cases e : j = p p0
      · subst e; rw [xup_self]; simp
      · rw [xup_ne _ _ (by omega), xup_ne _ _ (by omega), xup_ne _ _ (by omega), c3 j hj]; simp [e]
    · rw [xup_ne _ _ (by omega), xup_ne _ _ (by omega), xup_ne _ _ (by omega)]
      by_cases e : j = p p0
      · subst e; rw [xup_self]; simp
      · rw [xup_ne _ _ (by omega), xup_ne _ _ (by omega), c4 j hj]; simp [e]
    · have hk5 : k < 5 := by
        have := (List.getElem?_eq_some_iff.mp hx).1
        rw [hlen] at this
        omega
      rw [ins5_get hk5] at hx
      have other : ∀ (i : Nat), i < p0 → L[i]? = some x → sg (cnt L c) p0 k = i → (if p (sg (cnt L c) p0 k) = p p0 then c else co (p (sg (cnt L c) p0 k))) = x.1 ∧ (if p (sg (cnt L c) p0 k) = p p0 then (steps : Int) else ln (p (sg (cnt L c) p0 k))) = x.2.length ∧ x.2.length ≤ 9 ∧ 0 ≤ x.1 ∧ x.1 ≤ 900 ∧ ∀ (i a : Nat), x.2[i]? = some a → (if p (sg (cnt L c) p0 k) = p p0 then f' else fa (p (sg (cnt L c) p0 k))) i = a := by
        intro i hi hxi hsi
        rw [hsi]
        have hne : ¬ p i = p p0 := fun e => by have := d2 i p0 (by omega) (by omega) e; omega
        simp only [if_neg hne]
        exact d4 i x hxi
      by_cases h1 : k < cnt L c
      · rw [if_pos h1] at hx
        exact other k (by omega) hx (by unfold sg; rw [if_pos h1])
      · rw [if_neg h1] at hx
        by_cases h2 : k = cnt L c
        · rw [if_pos h2] at hx
          cases hx
          have hsg : sg (cnt L c) p0 k = p0 := by unfold sg; rw [if_neg h1, if_pos h2]
          dsimp only
          rw [hsg]
          simp only [if_true]
          refine ⟨trivial, by rw [hst], by omega, hc0, hc9, fun i a ha => ?_⟩
          have hi := (List.getElem?_eq_some_iff.mp ha).1
          rw [hf' i (by omega)]
          exact hpre i a ha
        · rw [if_neg h2] at hx
          have hkl := (List.getElem?_eq_some_iff.mp hx).1
          exact other (k - 1) (by omega) hx (by unfold sg; rw [if_neg h1, if_neg h2, if_pos (by omega)])
    · simp only [xup]
      repeat rw [if_neg (by omega)]
  have loop : ∀ j q : Nat, q = cnt L c + j → q ≤ p0 → xX l tX7_insert d 0 0 Q 0 0 19 [(0, .ref B), (1, .ref 12), (2, .int (I steps)), (3, .int (I c)), (4, .int (I q)), (5, .ref (B + 2 + 2 * p p0))] [] n (xup ws (B + 1) (3, .inr (.inr (.inl (ro 5 (shf p B q p0)))))) := by
    have n1 : ¬ B = B + 1 := by omega
    intro j
    induction j with
    | zero =>
      intro q hq hqp
      have e : q = cnt L c := by omega
      subst e
      by_cases hz : cnt L c = 0
      · refine xL_ok (t := tX7_insert) rfl (ops := oX7_insert_19) (by decide +kernel) (T := [(0, oX7_insert_0), (8, oX7_insert_8), (62, oX7_insert_62), (70, oX7_insert_70), (90, oX7_insert_90)]) (by decide +kernel) 0 ?_
        simp only [oX7_insert_0, oX7_insert_8, oX7_insert_62, oX7_insert_70, oX7_insert_90, oX7_insert_19, rX7_insert, x_iconst, x_bipush, x_sipush, x_lconst, x_iload, x_lload, x_aload, x_istore, x_lstore, x_astore, x_iinc, x_iadd, x_isub, x_imul, x_iand, x_ior, x_ixor, x_ishl, x_ishr, x_ineg, x_ladd, x_lsub, x_lmul, x_ldiv, x_lrem, x_lcmp, x_i2l, x_l2i, x_dup, x_dup_x1, x_dup2, x_if_eq, x_if_ne, x_if_lt, x_if_ge, x_if_gt, x_if_le, x_ic_eq, x_ic_ne, x_ic_lt, x_ic_ge, x_ic_gt, x_ic_le, x_goto, x_ireturn, x_lreturn, x_return, x_getfield, x_putfield, x_iaload, x_baload, x_laload, x_aaload, x_iastore, x_bastore, x_lastore, x_aastore, x_arraylength, x_newarray, x_anewarray, x_new, x_iload_0, x_iload_1, x_iload_2, x_iload_3, x_lload_0, x_lload_1, x_lload_2, x_lload_3, x_aload_0, x_aload_1, x_aload_2, x_aload_3, x_istore_0, x_istore_1, x_istore_2, x_istore_3, x_lstore_0, x_lstore_1, x_lstore_2, x_lstore_3, x_astore_0, x_astore_1, x_astore_2, x_astore_3, q_bipush_m3, q_bipush_m2, q_bipush_6, q_bipush_7, q_bipush_9, q_bipush_10, q_bipush_24, q_bipush_30, q_bipush_48, q_bipush_100, q_sipush_300, q_sipush_1000, q_sipush_24001, q_l0, q_l1, xtc_0_0, xtc_0_1, xtc_0_2, xtc_0_3, xtc_0_4, xtc_0_5, xtc_1_0, xtc_1_1, xtc_1_2, xtc_2_0, xtc_2_1, xtc_3_0, xtc_4_0, xtc_4_1, xtc_4_2, xtc_4_3, xtc_4_4, xtc_4_5, xtc_4_6, xtc_4_7, xtc_4_8, xtc_4_9, xtc_4_10, xtc_4_11, xtc_4_12, xtc_5_0, xtc_5_1, xtc_5_2, xtc_5_3, xtc_5_4, xtc_5_5, xtc_5_6, xtc_6_0, xtc_6_1, xtc_6_2, xtc_7_0, xtc_7_1, xtc_8_0, xtc_8_1, xtc_8_2, xtc_8_3, xtc_9_0, xtc_9_1, xtc_9_2, xtc_9_3, xtc_9_4, xtc_9_5, xtc_9_6, xtc_9_7, xtc_9_8, xtc_9_9, xtc_10_0, xtc_10_1, xtc_10_2, xtc_10_3, xtc_10_4, xtc_10_5, xtc_10_6, xtc_10_7, xtc_10_8, xtc_10_9, xtc_10_10, xtc_10_11, xtc_10_12, xtc_10_13, xtc_10_14, xtc_10_15, xtc_10_16, xtc_10_17, xtc_10_18, xtc_10_19, xtc_10_20, xtc_10_21, xtc_10_22, xtc_10_23, xtc_10_24, xtc_10_25, eq_self, reduceIte, Nat.reduceEqDiff, Nat.reduceAdd, Nat.reduceSub, Nat.zero_ne_one, Nat.one_ne_zero, Nat.succ_ne_zero, Nat.reduceLeDiff, reduceCtorEq, and_true, true_and, and_false, false_and, true_implies, false_implies, implies_true, not_true_eq_false, not_false_eq_true, xN_0, xN_s, xlook_c, xlook_n, xb_nil, xb_cons, xlen, xl_cons, xst_def, xst2_def, xdl_nil, xdl_int, xdl_ref, xdl_long, xrv_some, xfit_int, xfit_long, xfit_ref, cat_int, cat_ref, cat_long, xret_int, xret_bool, or_true, true_or, Option.some.injEq, Value.int.injEq, Value.ref.injEq, Value.long.injEq, List.getElem?_cons_zero, List.getElem?_cons_succ, List.set_cons_zero, List.set_cons_succ, List.length_cons, List.length_nil, xup_xup, Classical.not_not, Nat.reduceLT, Nat.zero_lt_succ, c1, xup_self, xup_ne, ne_eq, n1, ro_len]
        simp (disch := omega) only [I_lt, I_le, I_eq, I_in, I_add, I_sub, I_mul, I_b0, I_b01, b_eq0, b_eq1, Classical.not_not, ra_get, ra_set, ra_len, Int.toNat_natCast, eq_self, true_and, and_true, ne_eq, not_false_eq_true, not_true_eq_false]
        exact ⟨fun _ => fin, fun h => absurd h (by omega)⟩
      · obtain ⟨k, hk⟩ : ∃ k, cnt L c = k + 1 := ⟨cnt L c - 1, by omega⟩
        have hl : L[k]? = some L[k] := List.getElem?_eq_getElem (by omega)
        obtain ⟨q1, q2, q3, q4, q5, q6⟩ := d4 k _ hl
        have hle := cnt_lt (c := c) hl (by omega)
        have hk5 := d1 k (by omega)
        have e1 : I (cnt L c) - I 1 = I k := by rw [I_sub, hk]; congr 1; omega
        have e2 : (ro 5 (shf p B (cnt L c) p0)).getD (I k).toNatClampNeg none = some (B + 2 + 2 * p k) := by
          rw [ro_get (by omega) (by omega) (by omega), Int.toNat_natCast, shf, if_neg (by omega)]
        have e3 := c3 (p k) hk5
        have e4 : ¬ B + 2 + 2 * p k = B + 1 := by omega
        refine xL_ok (t := tX7_insert) rfl (ops := oX7_insert_19) (by decide +kernel) (T := [(0, oX7_insert_0), (8, oX7_insert_8), (62, oX7_insert_62), (70, oX7_insert_70), (90, oX7_insert_90)]) (by decide +kernel) 0 ?_
        simp only [oX7_insert_0, oX7_insert_8, oX7_insert_62, oX7_insert_70, oX7_insert_90, oX7_insert_19, rX7_insert, x_iconst, x_bipush, x_sipush, x_lconst, x_iload, x_lload, x_aload, x_istore, x_lstore, x_astore, x_iinc, x_iadd, x_isub, x_imul, x_iand, x_ior, x_ixor, x_ishl, x_ishr, x_ineg, x_ladd, x_lsub, x_lmul, x_ldiv, x_lrem, x_lcmp, x_i2l, x_l2i, x_dup, x_dup_x1, x_dup2, x_if_eq, x_if_ne, x_if_lt, x_if_ge, x_if_gt, x_if_le, x_ic_eq, x_ic_ne, x_ic_lt, x_ic_ge, x_ic_gt, x_ic_le, x_goto, x_ireturn, x_lreturn, x_return, x_getfield, x_putfield, x_iaload, x_baload, x_laload, x_aaload, x_iastore, x_bastore, x_lastore, x_aastore, x_arraylength, x_newarray, x_anewarray, x_new, x_iload_0, x_iload_1, x_iload_2, x_iload_3, x_lload_0, x_lload_1, x_lload_2, x_lload_3, x_aload_0, x_aload_1, x_aload_2, x_aload_3, x_istore_0, x_istore_1, x_istore_2, x_istore_3, x_lstore_0, x_lstore_1, x_lstore_2, x_lstore_3, x_astore_0, x_astore_1, x_astore_2, x_astore_3, q_bipush_m3, q_bipush_m2, q_bipush_6, q_bipush_7, q_bipush_9, q_bipush_10, q_bipush_24, q_bipush_30, q_bipush_48, q_bipush_100, q_sipush_300, q_sipush_1000, q_sipush_24001, q_l0, q_l1, xtc_0_0, xtc_0_1, xtc_0_2, xtc_0_3, xtc_0_4, xtc_0_5, xtc_1_0, xtc_1_1, xtc_1_2, xtc_2_0, xtc_2_1, xtc_3_0, xtc_4_0, xtc_4_1, xtc_4_2, xtc_4_3, xtc_4_4, xtc_4_5, xtc_4_6, xtc_4_7, xtc_4_8, xtc_4_9, xtc_4_10, xtc_4_11, xtc_4_12, xtc_5_0, xtc_5_1, xtc_5_2, xtc_5_3, xtc_5_4, xtc_5_5, xtc_5_6, xtc_6_0, xtc_6_1, xtc_6_2, xtc_7_0, xtc_7_1, xtc_8_0, xtc_8_1, xtc_8_2, xtc_8_3, xtc_9_0, xtc_9_1, xtc_9_2, xtc_9_3, xtc_9_4, xtc_9_5, xtc_9_6, xtc_9_7, xtc_9_8, xtc_9_9, xtc_10_0, xtc_10_1, xtc_10_2, xtc_10_3, xtc_10_4, xtc_10_5, xtc_10_6, xtc_10_7, xtc_10_8, xtc_10_9, xtc_10_10, xtc_10_11, xtc_10_12, xtc_10_13, xtc_10_14, xtc_10_15, xtc_10_16, xtc_10_17, xtc_10_18, xtc_10_19, xtc_10_20, xtc_10_21, xtc_10_22, xtc_10_23, xtc_10_24, xtc_10_25, eq_self, reduceIte, Nat.reduceEqDiff, Nat.reduceAdd, Nat.reduceSub, Nat.zero_ne_one, Nat.one_ne_zero, Nat.succ_ne_zero, Nat.reduceLeDiff, reduceCtorEq, and_true, true_and, and_false, false_and, true_implies, false_implies, implies_true, not_true_eq_false, not_false_eq_true, xN_0, xN_s, xlook_c, xlook_n, xb_nil, xb_cons, xlen, xl_cons, xst_def, xst2_def, xdl_nil, xdl_int, xdl_ref, xdl_long, xrv_some, xfit_int, xfit_long, xfit_ref, cat_int, cat_ref, cat_long, xret_int, xret_bool, or_true, true_or, Option.some.injEq, Value.int.injEq, Value.ref.injEq, Value.long.injEq, List.getElem?_cons_zero, List.getElem?_cons_succ, List.set_cons_zero, List.set_cons_succ, List.length_cons, List.length_nil, xup_xup, Classical.not_not, Nat.reduceLT, Nat.zero_lt_succ, c1, xup_self, xup_ne, ne_eq, n1, ro_len, e1, e2, e3, e4]
        rw [q1]
        simp (disch := omega) only [I_lt, I_le, I_eq, I_in, I_add, I_sub, I_mul, I_b0, I_b01, b_eq0, b_eq1, Classical.not_not, ra_get, ra_set, ra_len, Int.toNat_natCast, eq_self, true_and, and_true, ne_eq, not_false_eq_true, not_true_eq_false]
        exact ⟨fun h => absurd h (by omega), fun _ => ⟨by omega, fun _ => fin, fun h => absurd hle h⟩⟩
    | succ j ih =>
      intro q hq hqp
      obtain ⟨k, hk⟩ : ∃ k, q = k + 1 := ⟨q - 1, by omega⟩
      have hl : L[k]? = some L[k] := List.getElem?_eq_getElem (by omega)
      obtain ⟨q1, q2, q3, q4, q5, q6⟩ := d4 k _ hl
      have hge := cnt_ge (c := c) hs hl (by omega)
      have hk5 := d1 k (by omega)
      have e1 : I q - I 1 = I k := by rw [I_sub, hk]; congr 1; omega
      have e2 : (ro 5 (shf p B q p0)).getD (I k).toNatClampNeg none = some (B + 2 + 2 * p k) := by
        rw [ro_get (by omega) (by omega) (by omega), Int.toNat_natCast, shf, if_neg (by omega)]
      have e3 := c3 (p k) hk5
      have e4 : ¬ B + 2 + 2 * p k = B + 1 := by omega
      have e5 : I q + I (-1) = I k := by rw [I_add, hk]; congr 1; omega
      have e6 : (ro 5 (shf p B q p0)).set (I q).toNatClampNeg (some (B + 2 + 2 * p k)) = ro 5 (shf p B k p0) := by
        rw [ro_set (by omega) (by omega), Int.toNat_natCast]
        apply ro_ext
        intro i hi
        unfold fo shf
        by_cases h1 : i = q
        · rw [if_pos h1, if_pos (by omega), h1, hk]; rfl
        · rw [if_neg h1]
          by_cases h2 : q < i ∧ i ≤ p0
          · rw [if_pos h2, if_pos (by omega)]
          · rw [if_neg h2, if_neg (by omega)]
      refine xL_ok (t := tX7_insert) rfl (ops := oX7_insert_19) (by decide +kernel) (T := [(0, oX7_insert_0), (8, oX7_insert_8), (62, oX7_insert_62), (70, oX7_insert_70), (90, oX7_insert_90)]) (by decide +kernel) 0 ?_
      simp only [oX7_insert_0, oX7_insert_8, oX7_insert_62, oX7_insert_70, oX7_insert_90, oX7_insert_19, rX7_insert, x_iconst, x_bipush, x_sipush, x_lconst, x_iload, x_lload, x_aload, x_istore, x_lstore, x_astore, x_iinc, x_iadd, x_isub, x_imul, x_iand, x_ior, x_ixor, x_ishl, x_ishr, x_ineg, x_ladd, x_lsub, x_lmul, x_ldiv, x_lrem, x_lcmp, x_i2l, x_l2i, x_dup, x_dup_x1, x_dup2, x_if_eq, x_if_ne, x_if_lt, x_if_ge, x_if_gt, x_if_le, x_ic_eq, x_ic_ne, x_ic_lt, x_ic_ge, x_ic_gt, x_ic_le, x_goto, x_ireturn, x_lreturn, x_return, x_getfield, x_putfield, x_iaload, x_baload, x_laload, x_aaload, x_iastore, x_bastore, x_lastore, x_aastore, x_arraylength, x_newarray, x_anewarray, x_new, x_iload_0, x_iload_1, x_iload_2, x_iload_3, x_lload_0, x_lload_1, x_lload_2, x_lload_3, x_aload_0, x_aload_1, x_aload_2, x_aload_3, x_istore_0, x_istore_1, x_istore_2, x_istore_3, x_lstore_0, x_lstore_1, x_lstore_2, x_lstore_3, x_astore_0, x_astore_1, x_astore_2, x_astore_3, q_bipush_m3, q_bipush_m2, q_bipush_6, q_bipush_7, q_bipush_9, q_bipush_10, q_bipush_24, q_bipush_30, q_bipush_48, q_bipush_100, q_sipush_300, q_sipush_1000, q_sipush_24001, q_l0, q_l1, xtc_0_0, xtc_0_1, xtc_0_2, xtc_0_3, xtc_0_4, xtc_0_5, xtc_1_0, xtc_1_1, xtc_1_2, xtc_2_0, xtc_2_1, xtc_3_0, xtc_4_0, xtc_4_1, xtc_4_2, xtc_4_3, xtc_4_4, xtc_4_5, xtc_4_6, xtc_4_7, xtc_4_8, xtc_4_9, xtc_4_10, xtc_4_11, xtc_4_12, xtc_5_0, xtc_5_1, xtc_5_2, xtc_5_3, xtc_5_4, xtc_5_5, xtc_5_6, xtc_6_0, xtc_6_1, xtc_6_2, xtc_7_0, xtc_7_1, xtc_8_0, xtc_8_1, xtc_8_2, xtc_8_3, xtc_9_0, xtc_9_1, xtc_9_2, xtc_9_3, xtc_9_4, xtc_9_5, xtc_9_6, xtc_9_7, xtc_9_8, xtc_9_9, xtc_10_0, xtc_10_1, xtc_10_2, xtc_10_3, xtc_10_4, xtc_10_5, xtc_10_6, xtc_10_7, xtc_10_8, xtc_10_9, xtc_10_10, xtc_10_11, xtc_10_12, xtc_10_13, xtc_10_14, xtc_10_15, xtc_10_16, xtc_10_17, xtc_10_18, xtc_10_19, xtc_10_20, xtc_10_21, xtc_10_22, xtc_10_23, xtc_10_24, xtc_10_25, eq_self, reduceIte, Nat.reduceEqDiff, Nat.reduceAdd, Nat.reduceSub, Nat.zero_ne_one, Nat.one_ne_zero, Nat.succ_ne_zero, Nat.reduceLeDiff, reduceCtorEq, and_true, true_and, and_false, false_and, true_implies, false_implies, implies_true, not_true_eq_false, not_false_eq_true, xN_0, xN_s, xlook_c, xlook_n, xb_nil, xb_cons, xlen, xl_cons, xst_def, xst2_def, xdl_nil, xdl_int, xdl_ref, xdl_long, xrv_some, xfit_int, xfit_long, xfit_ref, cat_int, cat_ref, cat_long, xret_int, xret_bool, or_true, true_or, Option.some.injEq, Value.int.injEq, Value.ref.injEq, Value.long.injEq, List.getElem?_cons_zero, List.getElem?_cons_succ, List.set_cons_zero, List.set_cons_succ, List.length_cons, List.length_nil, xup_xup, Classical.not_not, Nat.reduceLT, Nat.zero_lt_succ, c1, xup_self, xup_ne, ne_eq, n1, ro_len, e1, e2, e3, e4, e5, e6, xelt]
      rw [q1]
      simp (disch := omega) only [I_lt, I_le, I_eq, I_in, I_add, I_sub, I_mul, I_b0, I_b01, b_eq0, b_eq1, Classical.not_not, ra_get, ra_set, ra_len, Int.toNat_natCast, eq_self, true_and, and_true, ne_eq, not_false_eq_true, not_true_eq_false]
      refine ⟨fun h => absurd h (by omega), fun _ => ⟨by omega, fun h => absurd h (by omega), fun _ => ⟨by omega, by omega, ?_, ?_⟩⟩⟩
      · exact ⟨_, rfl⟩
      · exact xX.loc _ (by simp) (ih k (by omega) (by omega))
  refine xN_ok (t := tX7_insert) rfl (T := [(0, oX7_insert_0), (8, oX7_insert_8), (62, oX7_insert_62), (70, oX7_insert_70), (90, oX7_insert_90)]) (by decide +kernel) 1 _ _ _ _ _ _ _ ?_
  simp only [oX7_insert_0, oX7_insert_8, oX7_insert_62, oX7_insert_70, oX7_insert_90, rX7_insert, x_iconst, x_bipush, x_sipush, x_lconst, x_iload, x_lload, x_aload, x_istore, x_lstore, x_astore, x_iinc, x_iadd, x_isub, x_imul, x_iand, x_ior, x_ixor, x_ishl, x_ishr, x_ineg, x_ladd, x_lsub, x_lmul, x_ldiv, x_lrem, x_lcmp, x_i2l, x_l2i, x_dup, x_dup_x1, x_dup2, x_if_eq, x_if_ne, x_if_lt, x_if_ge, x_if_gt, x_if_le, x_ic_eq, x_ic_ne, x_ic_lt, x_ic_ge, x_ic_gt, x_ic_le, x_goto, x_ireturn, x_lreturn, x_return, x_getfield, x_putfield, x_iaload, x_baload, x_laload, x_aaload, x_iastore, x_bastore, x_lastore, x_aastore, x_arraylength, x_newarray, x_anewarray, x_new, x_iload_0, x_iload_1, x_iload_2, x_iload_3, x_lload_0, x_lload_1, x_lload_2, x_lload_3, x_aload_0, x_aload_1, x_aload_2, x_aload_3, x_istore_0, x_istore_1, x_istore_2, x_istore_3, x_lstore_0, x_lstore_1, x_lstore_2, x_lstore_3, x_astore_0, x_astore_1, x_astore_2, x_astore_3, q_bipush_m3, q_bipush_m2, q_bipush_6, q_bipush_7, q_bipush_9, q_bipush_10, q_bipush_24, q_bipush_30, q_bipush_48, q_bipush_100, q_sipush_300, q_sipush_1000, q_sipush_24001, q_l0, q_l1, xtc_0_0, xtc_0_1, xtc_0_2, xtc_0_3, xtc_0_4, xtc_0_5, xtc_1_0, xtc_1_1, xtc_1_2, xtc_2_0, xtc_2_1, xtc_3_0, xtc_4_0, xtc_4_1, xtc_4_2, xtc_4_3, xtc_4_4, xtc_4_5, xtc_4_6, xtc_4_7, xtc_4_8, xtc_4_9, xtc_4_10, xtc_4_11, xtc_4_12, xtc_5_0, xtc_5_1, xtc_5_2, xtc_5_3, xtc_5_4, xtc_5_5, xtc_5_6, xtc_6_0, xtc_6_1, xtc_6_2, xtc_7_0, xtc_7_1, xtc_8_0, xtc_8_1, xtc_8_2, xtc_8_3, xtc_9_0, xtc_9_1, xtc_9_2, xtc_9_3, xtc_9_4, xtc_9_5, xtc_9_6, xtc_9_7, xtc_9_8, xtc_9_9, xtc_10_0, xtc_10_1, xtc_10_2, xtc_10_3, xtc_10_4, xtc_10_5, xtc_10_6, xtc_10_7, xtc_10_8, xtc_10_9, xtc_10_10, xtc_10_11, xtc_10_12, xtc_10_13, xtc_10_14, xtc_10_15, xtc_10_16, xtc_10_17, xtc_10_18, xtc_10_19, xtc_10_20, xtc_10_21, xtc_10_22, xtc_10_23, xtc_10_24, xtc_10_25, eq_self, reduceIte, Nat.reduceEqDiff, Nat.reduceAdd, Nat.reduceSub, Nat.zero_ne_one, Nat.one_ne_zero, Nat.succ_ne_zero, Nat.reduceLeDiff, reduceCtorEq, and_true, true_and, and_false, false_and, true_implies, false_implies, implies_true, not_true_eq_false, not_false_eq_true, xN_0, xN_s, xlook_c, xlook_n, xb_nil, xb_cons, xlen, xl_cons, xst_def, xst2_def, xdl_nil, xdl_int, xdl_ref, xdl_long, xrv_some, xfit_int, xfit_long, xfit_ref, cat_int, cat_ref, cat_long, xret_int, xret_bool, or_true, true_or, Option.some.injEq, Value.int.injEq, Value.ref.injEq, Value.long.injEq, List.getElem?_cons_zero, List.getElem?_cons_succ, List.set_cons_zero, List.set_cons_succ, List.length_cons, List.length_nil, xup_xup, Classical.not_not, Nat.reduceLT, Nat.zero_lt_succ, c1, c2, g0, ro_len]
  simp (disch := omega) only [I_lt, I_le, I_eq, I_in, I_add, I_sub, I_mul, I_b0, I_b01, b_eq0, b_eq1, Classical.not_not, ra_get, ra_set, ra_len, Int.toNat_natCast, eq_self, true_and, and_true, ne_eq, not_false_eq_true, not_true_eq_false]
  refine ⟨by omega, ?_⟩
  have := loop (p0 - cnt L c) p0 (by omega) (by omega)
  have es : ro 5 (shf p B p0 p0) = ro 5 (fun k => some (B + 2 + 2 * p k)) := ro_ext (fun i hi => by unfold shf; rw [if_neg (by omega)])
  rw [es, xup_id c2] at this
  exact xX.loc _ (by simp) this
end INS
end
